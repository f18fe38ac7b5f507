abbrev q_Mo_own (dC : Nat → ClassId) (dI : Nat → Nat → Nat) (cI cJ : ClassId) (a : Nat → Nat) (th tr dp zi co sh lt ts : Int) (mf : Nat → Int32) (x1 : Int32) : Outcome → State → Prop := fun o t => (∀ v, o = .returned v → ((∃ (z : Int32), v = some (.int z) ∧ okM th tr dp zi co sh lt ts mf ∧ (0 ≤ z.toInt) ∧ (z.toInt ≤ 0) ∧ sh_I (dC, dI) vcl cI cJ (gsM a th tr dp zi co sh lt ts mf) t.heap) ∨ (∃ (z : Int32), v = some (.int z) ∧ okM th tr dp zi co sh lt ts mf ∧ (1 ≤ z.toInt) ∧ (z.toInt ≤ 1) ∧ (16 ≤ x1.toInt) ∧ (x1.toInt ≤ 511) ∧ sh_I (dC, dI) vcl cI cJ (gsM a th tr dp zi co sh lt ts mf) t.heap))) ∧ (∀ x, o = .threw x → (False))
def rm_Mo_own : Room := { frames := 0, cells := 0, slots := 0, locals := 0 }
set_option maxHeartbeats 4000000 in
set_option maxRecDepth 100000 in
theorem c_Mo_own (l : Launch) (hfl : l.flags = pinnedFlags ++ [noTraceFlag]) (dC : Nat → ClassId) (dI : Nat → Nat → Nat) (cI cJ : ClassId) (a : Nat → Nat) (sz : Nat) (th tr dp zi co sh lt ts : Int) (mf : Nat → Int32) (x1 : Int32) (hok : okM th tr dp zi co sh lt ts mf) : tz_Met l ⟨"StoryMachineModel", "own", "(I)Z"⟩ tw_tbl rm_Mo_own (tzP (dC, dI) vcl cI cJ (gsM a th tr dp zi co sh lt ts mf) a (adM a) [.ref (a 0), .int x1] sz) (tq_Q (q_Mo_own dC dI cI cJ a th tr dp zi co sh lt ts mf x1) (ga (adM a) sz)) 0 0 0 0 (ga (adM a) sz) := by
  refine tz_ofW (cc := prog_13_method_7_code) (maxL := 2) (ret := (some .boolean)) (by decide) (tx_isM mw_1313) ?_
  intro p e s m args below meth c s₁ B hml hv
  obtain ⟨rfl, hsz, hI0, hK, hst0⟩ := hv
  have hx := B.exec
  have hb := B.bytes
  have hr := B.returns
  have hts := atoms_spec (ws := tw_tbl) B.pre
  have hown : s.vm.findClass "StoryMachineModel" = some m.cls := findClass_of_methodNamed B.named
  have hlocks := B.notSynchronized
  subst hsz
  have hst := fun (H : Heap) (locs : List Loc) (hS : va_S (ga (adM a) s.heap.size) s.heap H locs) (U : State) (hU : U.heap = H) (hW : s.WarmedH U.vm) => zS_all adM_map hI0 hst0 hS hU hW
  have hAC : ∀ q ∈ adM a, ga (adM a) s.heap.size q := fun q h => Or.inl h
  have hA0 : ∀ q, s.heap.size ≤ q → ga (adM a) s.heap.size q := fun q h => Or.inr h
  have hI : sI (dC, dI) vcl cI cJ (gsM a th tr dp zi co sh lt ts mf) (ga (adM a) s.heap.size) s.heap s.heap [] := ⟨hI0, va_S.rf⟩
  clear hI0 hst0
  have hl := lv_entry ([.ref (a 0), .int x1]) (n := 2) (Nat.le_of_ble_eq_true rfl)
  rw [lg_entry_eq]
  generalize (lg_sl ([.ref (a 0), .int x1]) ++ List.replicate (2 - (lg_sl ([.ref (a 0), .int x1])).length) Slot.unset).toArray = ls at hl ⊢
  have hl : lv_has ls 2 [(0, .ref (a 0)), (1, .int x1)] := hl
  generalize hZ : tz_MQ below (tq_Q (q_Mo_own dC dI cI cJ a th tr dp zi co sh lt ts mf x1) (ga (adM a) s.heap.size)) ([.ref (a 0), .int x1] : List Value).toArray s 0 0 0 0 (ga (adM a) s.heap.size) = Z
  obtain ⟨A, hAe⟩ : ∃ A, A = ga (adM a) s.heap.size := ⟨_, rfl⟩
  rw [← hAe] at hst hAC hA0 hI hZ
  refine sv_start hI (fun H locs hI => ?_)
  obtain ⟨⟨o1, o2⟩, ⟨o3, o4⟩, ⟨o5, o6⟩, ⟨o7, o8⟩, ⟨o9, o10⟩, ⟨o11, o12⟩, ⟨o13, o14⟩, ⟨o15, o16⟩, -⟩ := id hok
  have gx1 := sn_rng x1
  refine lv_iload_n hx hb d_Mo_own_0 rfl (lv_at hl 1 rfl) ?_
  refine sn_bipush hx hb d_Mo_own_1 (by decide) (fun z17 hz17 => ?_)
  refine sn_icmp_lt (tgt := 40) hx hb d_Mo_own_3 (by decide) (fun b18 => ?_) (fun b18 => ?_)
  · refine sn_iconst hx hb d_Mo_own_40 (by decide) (fun z19 hz19 => ?_)
    subst hZ
    exact tz_ret (W.zret (v := z19) hx hb hr (sn_bool (by omega) (by omega)).1 (fun t ht hW => ⟨⟨fun v9 hv9 => by cases hv9; exact (Or.inl ⟨z19, rfl, hok, by omega, by omega, by rw [ht]; exact hI.1⟩), fun x9 hx9 => (by cases hx9)⟩, hI.2.F ht⟩) hI.2.2.2 d_Mo_own_41)
  · refine lv_iload_n hx hb d_Mo_own_6 rfl (lv_at hl 1 rfl) ?_
    refine sn_sipush hx hb d_Mo_own_7 (by decide) (fun z20 hz20 => ?_)
    refine sn_icmp_ge (tgt := 40) hx hb d_Mo_own_10 (by decide) (fun b21 => ?_) (fun b21 => ?_)
    · refine sn_iconst hx hb d_Mo_own_40 (by decide) (fun z22 hz22 => ?_)
      subst hZ
      exact tz_ret (W.zret (v := z22) hx hb hr (sn_bool (by omega) (by omega)).1 (fun t ht hW => ⟨⟨fun v9 hv9 => by cases hv9; exact (Or.inl ⟨z22, rfl, hok, by omega, by omega, by rw [ht]; exact hI.1⟩), fun x9 hx9 => (by cases hx9)⟩, hI.2.F ht⟩) hI.2.2.2 d_Mo_own_41)
    · refine lv_iload_n hx hb d_Mo_own_13 rfl (lv_at hl 1 rfl) ?_
      refine sn_sipush hx hb d_Mo_own_14 (by decide) (fun z23 hz23 => ?_)
      refine lv_aload_n hx hb d_Mo_own_17 rfl (lv_at hl 0 rfl) ?_
      refine sv_getr (C := "StoryMachineModel") (T := T_Mo) (N := 51) hx hb hts in_Mo hown hK hI 0 kM_0 rfl 1 (by decide) (hts _ mw_1064) rfl d_Mo_own_18 ?_
      refine sn_bipush hx hb d_Mo_own_21 (by decide) (fun z24 hz24 => ?_)
      refine sv_ialde hx hb hK hI 1 kM_1 (by omega) (by omega) d_Mo_own_23 (fun z25 hz25 => ?_)
      have hz25r := hok.2.2.2.2.2.2.2.2 (z24.toNatClampNeg)
      rw [← hz25] at hz25r
      have hz25x : z25.toInt = (mf z24.toInt.toNat).toInt := by rw [hz25]; rfl
      have hz25y : z25.toInt = (mf 12).toInt := by rw [hz25, show z24.toNatClampNeg = 12 from by have h9 := sn_cl (z := z24) (by omega); omega]
      refine sn_imulL (k := 256) hx hb d_Mo_own_24 (by omega) (by omega) (by omega) (fun z26 hz26 => ?_)
      refine lv_aload_n hx hb d_Mo_own_25 rfl (lv_at hl 0 rfl) ?_
      refine sv_getr (C := "StoryMachineModel") (T := T_Mo) (N := 51) hx hb hts in_Mo hown hK hI 0 kM_0 rfl 1 (by decide) (hts _ mw_1064) rfl d_Mo_own_26 ?_
      refine sn_bipush hx hb d_Mo_own_29 (by decide) (fun z27 hz27 => ?_)
      refine sv_ialde hx hb hK hI 1 kM_1 (by omega) (by omega) d_Mo_own_31 (fun z28 hz28 => ?_)
      have hz28r := hok.2.2.2.2.2.2.2.2 (z27.toNatClampNeg)
      rw [← hz28] at hz28r
      have hz28x : z28.toInt = (mf z27.toInt.toNat).toInt := by rw [hz28]; rfl
      have hz28y : z28.toInt = (mf 13).toInt := by rw [hz28, show z27.toNatClampNeg = 13 from by have h9 := sn_cl (z := z27) (by omega); omega]
      refine sn_iadd hx hb d_Mo_own_32 (by omega) (by omega) (fun z29 hz29 => ?_)
      refine sn_icmp_ge (tgt := 40) hx hb d_Mo_own_33 (by decide) (fun b30 => ?_) (fun b30 => ?_)
      · refine sn_iconst hx hb d_Mo_own_40 (by decide) (fun z31 hz31 => ?_)
        subst hZ
        exact tz_ret (W.zret (v := z31) hx hb hr (sn_bool (by omega) (by omega)).1 (fun t ht hW => ⟨⟨fun v9 hv9 => by cases hv9; exact (Or.inl ⟨z31, rfl, hok, by omega, by omega, by rw [ht]; exact hI.1⟩), fun x9 hx9 => (by cases hx9)⟩, hI.2.F ht⟩) hI.2.2.2 d_Mo_own_41)
      · refine sn_iconst hx hb d_Mo_own_36 (by decide) (fun z32 hz32 => ?_)
        refine lv_goto (tgt := 41) hx hb d_Mo_own_37 (by decide) ?_
        subst hZ
        exact tz_ret (W.zret (v := z32) hx hb hr (sn_bool (by omega) (by omega)).1 (fun t ht hW => ⟨⟨fun v9 hv9 => by cases hv9; exact (Or.inr (⟨z32, rfl, hok, by omega, by omega, by omega, by omega, by rw [ht]; exact hI.1⟩)), fun x9 hx9 => (by cases hx9)⟩, hI.2.F ht⟩) hI.2.2.2 d_Mo_own_41)
abbrev q_Mo_setWord (dC : Nat → ClassId) (dI : Nat → Nat → Nat) (cI cJ : ClassId) (a : Nat → Nat) (th tr dp zi co sh lt ts : Int) (mf : Nat → Int32) (x1 : Int32) (x2 : Int32) : Outcome → State → Prop := fun o t => (∀ v, o = .returned v → ((∃ (tr_ : Int), v = none ∧ okM th tr_ dp zi co sh lt ts mf ∧ (1 ≤ tr_) ∧ sh_I (dC, dI) vcl cI cJ (gsM a th tr_ dp zi co sh lt ts mf) t.heap) ∨ (∃ (mf_ : Nat → Int32), v = none ∧ okM th tr dp zi co sh lt ts mf_ ∧ (16 ≤ x1.toInt) ∧ (x1.toInt ≤ 511) ∧ (tr ≤ 0) ∧ sh_I (dC, dI) vcl cI cJ (gsM a th tr dp zi co sh lt ts mf_) t.heap))) ∧ (∀ x, o = .threw x → (False))
def rm_Mo_setWord : Room := { frames := 1, cells := 0, slots := 0, locals := 22 }
set_option maxHeartbeats 4000000 in
set_option maxRecDepth 100000 in
theorem c_Mo_setWord (l : Launch) (hfl : l.flags = pinnedFlags ++ [noTraceFlag]) (dC : Nat → ClassId) (dI : Nat → Nat → Nat) (cI cJ : ClassId) (a : Nat → Nat) (sz : Nat) (th tr dp zi co sh lt ts : Int) (mf : Nat → Int32) (x1 : Int32) (x2 : Int32) (hok : okM th tr dp zi co sh lt ts mf) : tz_Met l ⟨"StoryMachineModel", "setWord", "(II)V"⟩ tw_tbl rm_Mo_setWord (tzP (dC, dI) vcl cI cJ (gsM a th tr dp zi co sh lt ts mf) a (adM a) [.ref (a 0), .int x1, .int x2] sz) (tq_Q (q_Mo_setWord dC dI cI cJ a th tr dp zi co sh lt ts mf x1 x2) (ga (adM a) sz)) 0 0 0 0 (ga (adM a) sz) := by
  refine tz_ofW (cc := prog_13_method_9_code) (maxL := 3) (ret := none) (by decide) (tx_isM mw_1309) ?_
  intro p e s m args below meth c s₁ B hml hv
  obtain ⟨rfl, hsz, hI0, hK, hst0⟩ := hv
  have hx := B.exec
  have hb := B.bytes
  have hr := B.returns
  have hts := atoms_spec (ws := tw_tbl) B.pre
  have hown : s.vm.findClass "StoryMachineModel" = some m.cls := findClass_of_methodNamed B.named
  have hlocks := B.notSynchronized
  subst hsz
  have hst := fun (H : Heap) (locs : List Loc) (hS : va_S (ga (adM a) s.heap.size) s.heap H locs) (U : State) (hU : U.heap = H) (hW : s.WarmedH U.vm) => zS_all adM_map hI0 hst0 hS hU hW
  have hAC : ∀ q ∈ adM a, ga (adM a) s.heap.size q := fun q h => Or.inl h
  have hA0 : ∀ q, s.heap.size ≤ q → ga (adM a) s.heap.size q := fun q h => Or.inr h
  have hI : sI (dC, dI) vcl cI cJ (gsM a th tr dp zi co sh lt ts mf) (ga (adM a) s.heap.size) s.heap s.heap [] := ⟨hI0, va_S.rf⟩
  clear hI0 hst0
  have hl := lv_entry ([.ref (a 0), .int x1, .int x2]) (n := 3) (Nat.le_of_ble_eq_true rfl)
  rw [lg_entry_eq]
  generalize (lg_sl ([.ref (a 0), .int x1, .int x2]) ++ List.replicate (3 - (lg_sl ([.ref (a 0), .int x1, .int x2])).length) Slot.unset).toArray = ls at hl ⊢
  have hl : lv_has ls 3 [(0, .ref (a 0)), (1, .int x1), (2, .int x2)] := hl
  generalize hZ : tz_MQ below (tq_Q (q_Mo_setWord dC dI cI cJ a th tr dp zi co sh lt ts mf x1 x2) (ga (adM a) s.heap.size)) ([.ref (a 0), .int x1, .int x2] : List Value).toArray s 0 0 0 0 (ga (adM a) s.heap.size) = Z
  obtain ⟨A, hAe⟩ : ∃ A, A = ga (adM a) s.heap.size := ⟨_, rfl⟩
  rw [← hAe] at hst hAC hA0 hI hZ
  refine sv_start hI (fun H locs hI => ?_)
  obtain ⟨⟨o1, o2⟩, ⟨o3, o4⟩, ⟨o5, o6⟩, ⟨o7, o8⟩, ⟨o9, o10⟩, ⟨o11, o12⟩, ⟨o13, o14⟩, ⟨o15, o16⟩, -⟩ := id hok
  have gx1 := sn_rng x1
  have gx2 := sn_rng x2
  refine lv_aload_n hx hb d_Mo_setWord_0 rfl (lv_at hl 0 rfl) ?_
  refine lv_aload_n hx hb d_Mo_setWord_1 rfl (lv_at hl 0 rfl) ?_
  refine lv_iload_n hx hb d_Mo_setWord_2 rfl (lv_at hl 1 rfl) ?_
  refine tz_call (A1 := ga (adM a) H.size) (tz_runV (C := "StoryMachineModel") (As := [.int x1]) (rest := [.ref (a 0)]) ⟨hx, hb, hml, hown, hts⟩ (c_Mo_own l hfl dC dI cI cJ a H.size th tr dp zi co sh lt ts mf x1 hok) (tx_cb (n := 1) hts rfl rfl ⟨Nat.le_of_ble_eq_true rfl, Nat.le_of_ble_eq_true rfl⟩ (tx_code.of (hts _ mw_1313)) (hts _ mw_12) (by decide +kernel) (hts _ mw_1310)) (hts _ mw_1312) (hts _ ms_Mo_own) ⟨tz_blind, sv_recv (q0 := 0) hts in_Mo hK hI kM_0 rfl, fun U hU hW => ⟨rfl, by rw [hU], by rw [hU]; exact hI.1, va_K.moved hW.alike hK, hst _ _ hI.2 U hU hW⟩⟩ rfl rfl hl.1 rfl (lv_room (Nat.le_of_ble_eq_true rfl)) d_Mo_setWord_3 ⟨Nat.le_of_ble_eq_true rfl, Nat.le_of_ble_eq_true rfl⟩) hI.2 (fun q _ h => ga_sub hAC hA0 hI.2 q h) (ga_sub hAC hA0 hI.2) (fun v t H1 locs1 ht hWt hpost _ _ hS => ?_) (fun x t H1 locs1 ht hWt hpost _ _ hS => (hpost.2 x rfl).elim)
  rcases hpost.1 _ rfl with ⟨z17, hv, c18, c18_0, c18_1, hI1⟩ | ⟨z19, hv, c20, c20_0, c20_1, c20_2, c20_3, hI1⟩
  · cases hv
    have hI : sI (dC, dI) vcl cI cJ (gsM a th tr dp zi co sh lt ts mf) A s.heap H1 locs1 := ⟨by rw [← ht]; exact hI1, hS⟩
    clear hpost hI1 hS ht hWt
    revert hI; generalize H1 = H; generalize locs1 = locs; intro hI
    refine sn_if_eq (tgt := 23) hx hb d_Mo_setWord_6 (by decide) (fun b21 => ?_) (fun b21 => ?_)
    · refine sn_iconst hx hb d_Mo_setWord_23 (by decide) (fun z22 hz22 => ?_)
      refine sn_iconst hx hb d_Mo_setWord_24 (by decide) (fun z23 hz23 => ?_)
      refine tz_call (A1 := ga (adM a) H.size) (tz_runV (C := "StoryMachineModel") (As := [.int z22, .int z23]) (rest := []) ⟨hx, hb, hml, hown, hts⟩ (c_Mo_good l hfl dC dI cI cJ a H.size th tr dp zi co sh lt ts mf z22 z23 c18 (by omega) (by omega) (by omega) (by omega)) (tx_cb (n := 2) hts rfl rfl ⟨Nat.le_of_ble_eq_true rfl, Nat.le_of_ble_eq_true rfl⟩ (tx_code.of (hts _ mw_1240)) (hts _ mw_12) (by decide +kernel) (hts _ mw_1237)) (hts _ mw_1239) (hts _ ms_Mo_good) ⟨tz_blind, sv_recv (q0 := 0) hts in_Mo hK hI kM_0 rfl, fun U hU hW => ⟨rfl, by rw [hU], by rw [hU]; exact hI.1, va_K.moved hW.alike hK, hst _ _ hI.2 U hU hW⟩⟩ rfl rfl hl.1 rfl (lv_room (Nat.le_of_ble_eq_true rfl)) d_Mo_setWord_25 ⟨Nat.le_of_ble_eq_true rfl, Nat.le_of_ble_eq_true rfl⟩) hI.2 (fun q _ h => ga_sub hAC hA0 hI.2 q h) (ga_sub hAC hA0 hI.2) (fun v t H1 locs1 ht hWt hpost _ _ hS => ?_) (fun x t H1 locs1 ht hWt hpost _ _ hS => (hpost.2 x rfl).elim)
      rcases hpost.1 _ rfl with ⟨z24, t_tr25, hv, c26, c26_0, c26_1, c26_2, c26_3, hI1⟩ | ⟨z27, hv, c28, c28_0, c28_1, c28_2, c28_3, hI1⟩
      · cases hv
        have hI : sI (dC, dI) vcl cI cJ (gsM a th t_tr25 dp zi co sh lt ts mf) A s.heap H1 locs1 := ⟨by rw [← ht]; exact hI1, hS⟩
        obtain ⟨-, ⟨o29, o30⟩, -, -, -, -, -, -, -⟩ := id c26
        clear hpost hI1 hS ht hWt
        revert hI; generalize H1 = H; generalize locs1 = locs; intro hI
        refine sn_if_eq (tgt := 58) hx hb d_Mo_setWord_28 (by decide) (fun b31 => ?_) (fun b31 => ?_)
        · subst hZ
          exact tz_ret (W.vret hx hb hr (fun t ht hW => ⟨⟨fun v9 hv9 => by cases hv9; exact (Or.inl ⟨t_tr25, rfl, c26, by omega, by rw [ht]; exact hI.1⟩), fun x9 hx9 => (by cases hx9)⟩, hI.2.F ht⟩) hI.2.2.2 d_Mo_setWord_58)
        · omega
      · omega
    · omega
  · cases hv
    have hI : sI (dC, dI) vcl cI cJ (gsM a th tr dp zi co sh lt ts mf) A s.heap H1 locs1 := ⟨by rw [← ht]; exact hI1, hS⟩
    clear hpost hI1 hS ht hWt
    revert hI; generalize H1 = H; generalize locs1 = locs; intro hI
    refine sn_if_eq (tgt := 23) hx hb d_Mo_setWord_6 (by decide) (fun b32 => ?_) (fun b32 => ?_)
    · omega
    · refine lv_aload_n hx hb d_Mo_setWord_9 rfl (lv_at hl 0 rfl) ?_
      refine lv_iload_n hx hb d_Mo_setWord_10 rfl (lv_at hl 1 rfl) ?_
      refine sn_iconst hx hb d_Mo_setWord_11 (by decide) (fun z33 hz33 => ?_)
      refine sn_iadd hx hb d_Mo_setWord_12 (by omega) (by omega) (fun z34 hz34 => ?_)
      refine tz_call (A1 := ga (adM a) H.size) (tz_runV (C := "StoryMachineModel") (As := [.int z34]) (rest := [.ref (a 0)]) ⟨hx, hb, hml, hown, hts⟩ (c_Mo_own l hfl dC dI cI cJ a H.size th tr dp zi co sh lt ts mf z34 c20) (tx_cb (n := 1) hts rfl rfl ⟨Nat.le_of_ble_eq_true rfl, Nat.le_of_ble_eq_true rfl⟩ (tx_code.of (hts _ mw_1313)) (hts _ mw_12) (by decide +kernel) (hts _ mw_1310)) (hts _ mw_1312) (hts _ ms_Mo_own) ⟨tz_blind, sv_recv (q0 := 0) hts in_Mo hK hI kM_0 rfl, fun U hU hW => ⟨rfl, by rw [hU], by rw [hU]; exact hI.1, va_K.moved hW.alike hK, hst _ _ hI.2 U hU hW⟩⟩ rfl rfl hl.1 rfl (lv_room (Nat.le_of_ble_eq_true rfl)) d_Mo_setWord_13 ⟨Nat.le_of_ble_eq_true rfl, Nat.le_of_ble_eq_true rfl⟩) hI.2 (fun q _ h => ga_sub hAC hA0 hI.2 q h) (ga_sub hAC hA0 hI.2) (fun v t H1 locs1 ht hWt hpost _ _ hS => ?_) (fun x t H1 locs1 ht hWt hpost _ _ hS => (hpost.2 x rfl).elim)
      rcases hpost.1 _ rfl with ⟨z35, hv, c36, c36_0, c36_1, hI1⟩ | ⟨z37, hv, c38, c38_0, c38_1, c38_2, c38_3, hI1⟩
      · cases hv
        have hI : sI (dC, dI) vcl cI cJ (gsM a th tr dp zi co sh lt ts mf) A s.heap H1 locs1 := ⟨by rw [← ht]; exact hI1, hS⟩
        clear hpost hI1 hS ht hWt
        revert hI; generalize H1 = H; generalize locs1 = locs; intro hI
        refine sn_if_eq (tgt := 23) hx hb d_Mo_setWord_16 (by decide) (fun b39 => ?_) (fun b39 => ?_)
        · refine sn_iconst hx hb d_Mo_setWord_23 (by decide) (fun z40 hz40 => ?_)
          refine sn_iconst hx hb d_Mo_setWord_24 (by decide) (fun z41 hz41 => ?_)
          refine tz_call (A1 := ga (adM a) H.size) (tz_runV (C := "StoryMachineModel") (As := [.int z40, .int z41]) (rest := []) ⟨hx, hb, hml, hown, hts⟩ (c_Mo_good l hfl dC dI cI cJ a H.size th tr dp zi co sh lt ts mf z40 z41 c36 (by omega) (by omega) (by omega) (by omega)) (tx_cb (n := 2) hts rfl rfl ⟨Nat.le_of_ble_eq_true rfl, Nat.le_of_ble_eq_true rfl⟩ (tx_code.of (hts _ mw_1240)) (hts _ mw_12) (by decide +kernel) (hts _ mw_1237)) (hts _ mw_1239) (hts _ ms_Mo_good) ⟨tz_blind, sv_recv (q0 := 0) hts in_Mo hK hI kM_0 rfl, fun U hU hW => ⟨rfl, by rw [hU], by rw [hU]; exact hI.1, va_K.moved hW.alike hK, hst _ _ hI.2 U hU hW⟩⟩ rfl rfl hl.1 rfl (lv_room (Nat.le_of_ble_eq_true rfl)) d_Mo_setWord_25 ⟨Nat.le_of_ble_eq_true rfl, Nat.le_of_ble_eq_true rfl⟩) hI.2 (fun q _ h => ga_sub hAC hA0 hI.2 q h) (ga_sub hAC hA0 hI.2) (fun v t H1 locs1 ht hWt hpost _ _ hS => ?_) (fun x t H1 locs1 ht hWt hpost _ _ hS => (hpost.2 x rfl).elim)
          rcases hpost.1 _ rfl with ⟨z42, t_tr43, hv, c44, c44_0, c44_1, c44_2, c44_3, hI1⟩ | ⟨z45, hv, c46, c46_0, c46_1, c46_2, c46_3, hI1⟩
          · cases hv
            have hI : sI (dC, dI) vcl cI cJ (gsM a th t_tr43 dp zi co sh lt ts mf) A s.heap H1 locs1 := ⟨by rw [← ht]; exact hI1, hS⟩
            obtain ⟨-, ⟨o47, o48⟩, -, -, -, -, -, -, -⟩ := id c44
            clear hpost hI1 hS ht hWt
            revert hI; generalize H1 = H; generalize locs1 = locs; intro hI
            refine sn_if_eq (tgt := 58) hx hb d_Mo_setWord_28 (by decide) (fun b49 => ?_) (fun b49 => ?_)
            · subst hZ
              exact tz_ret (W.vret hx hb hr (fun t ht hW => ⟨⟨fun v9 hv9 => by cases hv9; exact (Or.inl ⟨t_tr43, rfl, c44, by omega, by rw [ht]; exact hI.1⟩), fun x9 hx9 => (by cases hx9)⟩, hI.2.F ht⟩) hI.2.2.2 d_Mo_setWord_58)
            · omega
          · omega
        · omega
      · cases hv
        have hI : sI (dC, dI) vcl cI cJ (gsM a th tr dp zi co sh lt ts mf) A s.heap H1 locs1 := ⟨by rw [← ht]; exact hI1, hS⟩
        clear hpost hI1 hS ht hWt
        revert hI; generalize H1 = H; generalize locs1 = locs; intro hI
        refine sn_if_eq (tgt := 23) hx hb d_Mo_setWord_16 (by decide) (fun b50 => ?_) (fun b50 => ?_)
        · omega
        · refine sn_iconst hx hb d_Mo_setWord_19 (by decide) (fun z51 hz51 => ?_)
          refine lv_goto (tgt := 24) hx hb d_Mo_setWord_20 (by decide) ?_
          refine sn_iconst hx hb d_Mo_setWord_24 (by decide) (fun z52 hz52 => ?_)
          refine tz_call (A1 := ga (adM a) H.size) (tz_runV (C := "StoryMachineModel") (As := [.int z51, .int z52]) (rest := []) ⟨hx, hb, hml, hown, hts⟩ (c_Mo_good l hfl dC dI cI cJ a H.size th tr dp zi co sh lt ts mf z51 z52 c38 (by omega) (by omega) (by omega) (by omega)) (tx_cb (n := 2) hts rfl rfl ⟨Nat.le_of_ble_eq_true rfl, Nat.le_of_ble_eq_true rfl⟩ (tx_code.of (hts _ mw_1240)) (hts _ mw_12) (by decide +kernel) (hts _ mw_1237)) (hts _ mw_1239) (hts _ ms_Mo_good) ⟨tz_blind, sv_recv (q0 := 0) hts in_Mo hK hI kM_0 rfl, fun U hU hW => ⟨rfl, by rw [hU], by rw [hU]; exact hI.1, va_K.moved hW.alike hK, hst _ _ hI.2 U hU hW⟩⟩ rfl rfl hl.1 rfl (lv_room (Nat.le_of_ble_eq_true rfl)) d_Mo_setWord_25 ⟨Nat.le_of_ble_eq_true rfl, Nat.le_of_ble_eq_true rfl⟩) hI.2 (fun q _ h => ga_sub hAC hA0 hI.2 q h) (ga_sub hAC hA0 hI.2) (fun v t H1 locs1 ht hWt hpost _ _ hS => ?_) (fun x t H1 locs1 ht hWt hpost _ _ hS => (hpost.2 x rfl).elim)
          rcases hpost.1 _ rfl with ⟨z53, t_tr54, hv, c55, c55_0, c55_1, c55_2, c55_3, hI1⟩ | ⟨z56, hv, c57, c57_0, c57_1, c57_2, c57_3, hI1⟩
          · cases hv
            have hI : sI (dC, dI) vcl cI cJ (gsM a th t_tr54 dp zi co sh lt ts mf) A s.heap H1 locs1 := ⟨by rw [← ht]; exact hI1, hS⟩
            obtain ⟨-, ⟨o58, o59⟩, -, -, -, -, -, -, -⟩ := id c55
            clear hpost hI1 hS ht hWt
            revert hI; generalize H1 = H; generalize locs1 = locs; intro hI
            refine sn_if_eq (tgt := 58) hx hb d_Mo_setWord_28 (by decide) (fun b60 => ?_) (fun b60 => ?_)
            · subst hZ
              exact tz_ret (W.vret hx hb hr (fun t ht hW => ⟨⟨fun v9 hv9 => by cases hv9; exact (Or.inl ⟨t_tr54, rfl, c55, by omega, by rw [ht]; exact hI.1⟩), fun x9 hx9 => (by cases hx9)⟩, hI.2.F ht⟩) hI.2.2.2 d_Mo_setWord_58)
            · omega
          · cases hv
            have hI : sI (dC, dI) vcl cI cJ (gsM a th tr dp zi co sh lt ts mf) A s.heap H1 locs1 := ⟨by rw [← ht]; exact hI1, hS⟩
            clear hpost hI1 hS ht hWt
            revert hI; generalize H1 = H; generalize locs1 = locs; intro hI
            refine sn_if_eq (tgt := 58) hx hb d_Mo_setWord_28 (by decide) (fun b61 => ?_) (fun b61 => ?_)
            · omega
            · refine lv_aload_n hx hb d_Mo_setWord_31 rfl (lv_at hl 0 rfl) ?_
              refine sv_getr (C := "StoryMachineModel") (T := T_Mo) (N := 51) hx hb hts in_Mo hown hK hI 0 kM_0 rfl 1 (by decide) (hts _ mw_1064) rfl d_Mo_setWord_32 ?_
              refine lv_iload_n hx hb d_Mo_setWord_35 rfl (lv_at hl 1 rfl) ?_
              refine lv_iload_n hx hb d_Mo_setWord_36 rfl (lv_at hl 2 rfl) ?_
              refine sn_bipush hx hb d_Mo_setWord_37 (by decide) (fun z62 hz62 => ?_)
              refine sn_ishrT hx hb d_Mo_setWord_39 (fun z63 hz63a hz63b => ?_)
              refine sn_sipush hx hb d_Mo_setWord_40 (by decide) (fun z64 hz64 => ?_)
              refine sn_iand (k := 8) (M := 255) hx hb d_Mo_setWord_43 (by decide) (by decide) (by omega) (fun z65 hz65a hz65b hz65c => ?_)
              clear hz65c
              refine sv_iast hx hb hK (sh_in adM_map hAC) hI 1 kM_1 (P' := fun g => g = upd mf (x1.toNatClampNeg) z65) (by omega) (by omega) (fun g hg => by rw [hg]) pM_1 d_Mo_setWord_44 (fun H locs hI => ?_)
              obtain ⟨f66, hf66⟩ : ∃ z : Nat → Int32, z = upd mf (x1.toNatClampNeg) z65 := ⟨_, rfl⟩
              rw [← hf66] at hI
              have rf66 : rg 0 255 f66 := by rw [hf66]; exact rg_upd c57.2.2.2.2.2.2.2.2 (by omega) (by omega)
              refine lv_aload_n hx hb d_Mo_setWord_45 rfl (lv_at hl 0 rfl) ?_
              refine sv_getr (C := "StoryMachineModel") (T := T_Mo) (N := 51) hx hb hts in_Mo hown hK hI 0 kM_0 rfl 1 (by decide) (hts _ mw_1064) rfl d_Mo_setWord_46 ?_
              refine lv_iload_n hx hb d_Mo_setWord_49 rfl (lv_at hl 1 rfl) ?_
              refine sn_iconst hx hb d_Mo_setWord_50 (by decide) (fun z67 hz67 => ?_)
              refine sn_iadd hx hb d_Mo_setWord_51 (by omega) (by omega) (fun z68 hz68 => ?_)
              refine lv_iload_n hx hb d_Mo_setWord_52 rfl (lv_at hl 2 rfl) ?_
              refine sn_sipush hx hb d_Mo_setWord_53 (by decide) (fun z69 hz69 => ?_)
              refine sn_iand (k := 8) (M := 255) hx hb d_Mo_setWord_56 (by decide) (by decide) (by omega) (fun z70 hz70a hz70b hz70c => ?_)
              clear hz70c
              refine sv_iast hx hb hK (sh_in adM_map hAC) hI 1 kM_1 (P' := fun g => g = upd f66 (z68.toNatClampNeg) z70) (by omega) (by omega) (fun g hg => by rw [hg]) pM_1 d_Mo_setWord_57 (fun H locs hI => ?_)
              obtain ⟨f71, hf71⟩ : ∃ z : Nat → Int32, z = upd f66 (z68.toNatClampNeg) z70 := ⟨_, rfl⟩
              rw [← hf71] at hI
              have rf71 : rg 0 255 f71 := by rw [hf71]; exact rg_upd rf66 (by omega) (by omega)
              have ho72 : okM th tr dp zi co sh lt ts f71 := ⟨c57.1, c57.2.1, c57.2.2.1, c57.2.2.2.1, c57.2.2.2.2.1, c57.2.2.2.2.2.1, c57.2.2.2.2.2.2.1, c57.2.2.2.2.2.2.2.1, rf71⟩
              subst hZ
              exact tz_ret (W.vret hx hb hr (fun t ht hW => ⟨⟨fun v9 hv9 => by cases hv9; exact (Or.inr (⟨f71, rfl, ho72, by omega, by omega, by omega, by rw [ht]; exact hI.1⟩)), fun x9 hx9 => (by cases hx9)⟩, hI.2.F ht⟩) hI.2.2.2 d_Mo_setWord_58)
abbrev q_Mo_replace (dC : Nat → ClassId) (dI : Nat → Nat → Nat) (cI cJ : ClassId) (a : Nat → Nat) (th tr dp zi co sh lt ts : Int) (mf : Nat → Int32) (x1 : Int32) (x2 : Int32) : Outcome → State → Prop := fun o t => (∀ v, o = .returned v → ((∃ (tr_ : Int), v = none ∧ okM th tr_ dp zi co sh lt ts mf ∧ (1 ≤ tr_) ∧ sh_I (dC, dI) vcl cI cJ (gsM a th tr_ dp zi co sh lt ts mf) t.heap) ∨ (∃ (mf_ : Nat → Int32), v = none ∧ okM th tr dp zi co sh lt ts mf_ ∧ (x1.toInt ≤ 47) ∧ (tr ≤ 0) ∧ sh_I (dC, dI) vcl cI cJ (gsM a th tr dp zi co sh lt ts mf_) t.heap))) ∧ (∀ x, o = .threw x → (False))
def rm_Mo_replace : Room := { frames := 3, cells := 0, slots := 0, locals := 66 }
set_option maxHeartbeats 4000000 in
set_option maxRecDepth 100000 in
theorem c_Mo_replace (l : Launch) (hfl : l.flags = pinnedFlags ++ [noTraceFlag]) (dC : Nat → ClassId) (dI : Nat → Nat → Nat) (cI cJ : ClassId) (a : Nat → Nat) (sz : Nat) (th tr dp zi co sh lt ts : Int) (mf : Nat → Int32) (x1 : Int32) (x2 : Int32) (hok : okM th tr dp zi co sh lt ts mf) : tz_Met l ⟨"StoryMachineModel", "replace", "(II)V"⟩ tw_tbl rm_Mo_replace (tzP (dC, dI) vcl cI cJ (gsM a th tr dp zi co sh lt ts mf) a (adM a) [.ref (a 0), .int x1, .int x2] sz) (tq_Q (q_Mo_replace dC dI cI cJ a th tr dp zi co sh lt ts mf x1 x2) (ga (adM a) sz)) 0 0 0 0 (ga (adM a) sz) := by
  refine tz_ofW (cc := prog_13_method_13_code) (maxL := 3) (ret := none) (by decide) (tx_isM mw_1305) ?_
  intro p e s m args below meth c s₁ B hml hv
  obtain ⟨rfl, hsz, hI0, hK, hst0⟩ := hv
  have hx := B.exec
  have hb := B.bytes
  have hr := B.returns
  have hts := atoms_spec (ws := tw_tbl) B.pre
  have hown : s.vm.findClass "StoryMachineModel" = some m.cls := findClass_of_methodNamed B.named
  have hlocks := B.notSynchronized
  subst hsz
  have hst := fun (H : Heap) (locs : List Loc) (hS : va_S (ga (adM a) s.heap.size) s.heap H locs) (U : State) (hU : U.heap = H) (hW : s.WarmedH U.vm) => zS_all adM_map hI0 hst0 hS hU hW
  have hAC : ∀ q ∈ adM a, ga (adM a) s.heap.size q := fun q h => Or.inl h
  have hA0 : ∀ q, s.heap.size ≤ q → ga (adM a) s.heap.size q := fun q h => Or.inr h
  have hI : sI (dC, dI) vcl cI cJ (gsM a th tr dp zi co sh lt ts mf) (ga (adM a) s.heap.size) s.heap s.heap [] := ⟨hI0, va_S.rf⟩
  clear hI0 hst0
  have hl := lv_entry ([.ref (a 0), .int x1, .int x2]) (n := 3) (Nat.le_of_ble_eq_true rfl)
  rw [lg_entry_eq]
  generalize (lg_sl ([.ref (a 0), .int x1, .int x2]) ++ List.replicate (3 - (lg_sl ([.ref (a 0), .int x1, .int x2])).length) Slot.unset).toArray = ls at hl ⊢
  have hl : lv_has ls 3 [(0, .ref (a 0)), (1, .int x1), (2, .int x2)] := hl
  generalize hZ : tz_MQ below (tq_Q (q_Mo_replace dC dI cI cJ a th tr dp zi co sh lt ts mf x1 x2) (ga (adM a) s.heap.size)) ([.ref (a 0), .int x1, .int x2] : List Value).toArray s 0 0 0 0 (ga (adM a) s.heap.size) = Z
  obtain ⟨A, hAe⟩ : ∃ A, A = ga (adM a) s.heap.size := ⟨_, rfl⟩
  rw [← hAe] at hst hAC hA0 hI hZ
  refine sv_start hI (fun H locs hI => ?_)
  obtain ⟨⟨o1, o2⟩, ⟨o3, o4⟩, ⟨o5, o6⟩, ⟨o7, o8⟩, ⟨o9, o10⟩, ⟨o11, o12⟩, ⟨o13, o14⟩, ⟨o15, o16⟩, -⟩ := id hok
  have gx1 := sn_rng x1
  have gx2 := sn_rng x2
  have j98z : ∀ (H : Heap) (locs : List Loc) (ls : Array Slot), sI (dC, dI) vcl cI cJ (gsM a th tr dp zi co sh lt ts mf) A s.heap H locs → okM th tr dp zi co sh lt ts mf → tr ≤ 0 → x1.toInt ≤ 15 → lv_has ls 3 [(0, .ref (a 0)), (1, .int x1), (2, .int x2)] → W p l e (headSpec tw_tbl rm_Mo_replace).room s m ([.ref (a 0), .int x1, .int x2] : List Value).toArray below meth c H locs 0 0 Z (F0 m 98 ls []) := by
    intro H locs ls hI hok g98_0 g98_1 hl
    obtain ⟨⟨o17, o18⟩, ⟨o19, o20⟩, ⟨o21, o22⟩, ⟨o23, o24⟩, ⟨o25, o26⟩, ⟨o27, o28⟩, ⟨o29, o30⟩, ⟨o31, o32⟩, -⟩ := id hok
    refine lv_iload_n hx hb d_Mo_replace_98 rfl (lv_at hl 1 rfl) ?_
    refine sn_if_le (tgt := 148) hx hb d_Mo_replace_99 (by decide) (fun b33 => ?_) (fun b33 => ?_)
    · subst hZ
      exact tz_ret (W.vret hx hb hr (fun t ht hW => ⟨⟨fun v9 hv9 => by cases hv9; exact (Or.inr (⟨mf, rfl, hok, by omega, by omega, by rw [ht]; exact hI.1⟩)), fun x9 hx9 => (by cases hx9)⟩, hI.2.F ht⟩) hI.2.2.2 d_Mo_replace_148)
    · refine lv_aload_n hx hb d_Mo_replace_102 rfl (lv_at hl 0 rfl) ?_
      refine lv_iload_n hx hb d_Mo_replace_103 rfl (lv_at hl 1 rfl) ?_
      refine lv_aload_n hx hb d_Mo_replace_104 rfl (lv_at hl 0 rfl) ?_
      refine sv_getr (C := "StoryMachineModel") (T := T_Mo) (N := 51) hx hb hts in_Mo hown hK hI 0 kM_0 rfl 5 (by decide) (hts _ mw_1068) rfl d_Mo_replace_105 ?_
      refine lv_aload_n hx hb d_Mo_replace_108 rfl (lv_at hl 0 rfl) ?_
      refine sv_gete (C := "StoryMachineModel") (T := T_Mo) (N := 51) hx hb hts in_Mo hown hK hI 0 kM_0 rfl 4 (by decide) (hts _ mw_1067) rfl d_Mo_replace_109 (fun z34 hz34 => ?_)
      refine sv_ialdr hx hb hK hI 3 kM_3 (by omega) (by omega) d_Mo_replace_112 (fun z35 hz35a hz35b => ?_)
      refine sn_icmp_gt (tgt := 120) hx hb d_Mo_replace_113 (by decide) (fun b36 => ?_) (fun b36 => ?_)
      · refine sn_iconst hx hb d_Mo_replace_120 (by decide) (fun z37 hz37 => ?_)
        refine sn_iconst hx hb d_Mo_replace_121 (by decide) (fun z38 hz38 => ?_)
        refine tz_call (A1 := ga (adM a) H.size) (tz_runV (C := "StoryMachineModel") (As := [.int z37, .int z38]) (rest := []) ⟨hx, hb, hml, hown, hts⟩ (c_Mo_good l hfl dC dI cI cJ a H.size th tr dp zi co sh lt ts mf z37 z38 hok (by omega) (by omega) (by omega) (by omega)) (tx_cb (n := 2) hts rfl rfl ⟨Nat.le_of_ble_eq_true rfl, Nat.le_of_ble_eq_true rfl⟩ (tx_code.of (hts _ mw_1240)) (hts _ mw_12) (by decide +kernel) (hts _ mw_1237)) (hts _ mw_1239) (hts _ ms_Mo_good) ⟨tz_blind, sv_recv (q0 := 0) hts in_Mo hK hI kM_0 rfl, fun U hU hW => ⟨rfl, by rw [hU], by rw [hU]; exact hI.1, va_K.moved hW.alike hK, hst _ _ hI.2 U hU hW⟩⟩ rfl rfl hl.1 rfl (lv_room (Nat.le_of_ble_eq_true rfl)) d_Mo_replace_122 ⟨Nat.le_of_ble_eq_true rfl, Nat.le_of_ble_eq_true rfl⟩) hI.2 (fun q _ h => ga_sub hAC hA0 hI.2 q h) (ga_sub hAC hA0 hI.2) (fun v t H1 locs1 ht hWt hpost _ _ hS => ?_) (fun x t H1 locs1 ht hWt hpost _ _ hS => (hpost.2 x rfl).elim)
        rcases hpost.1 _ rfl with ⟨z39, t_tr40, hv, c41, c41_0, c41_1, c41_2, c41_3, hI1⟩ | ⟨z42, hv, c43, c43_0, c43_1, c43_2, c43_3, hI1⟩
        · cases hv
          have hI : sI (dC, dI) vcl cI cJ (gsM a th t_tr40 dp zi co sh lt ts mf) A s.heap H1 locs1 := ⟨by rw [← ht]; exact hI1, hS⟩
          obtain ⟨-, ⟨o44, o45⟩, -, -, -, -, -, -, -⟩ := id c41
          clear hpost hI1 hS ht hWt
          revert hI; generalize H1 = H; generalize locs1 = locs; intro hI
          refine sn_if_eq (tgt := 148) hx hb d_Mo_replace_125 (by decide) (fun b46 => ?_) (fun b46 => ?_)
          · subst hZ
            exact tz_ret (W.vret hx hb hr (fun t ht hW => ⟨⟨fun v9 hv9 => by cases hv9; exact (Or.inl ⟨t_tr40, rfl, c41, by omega, by rw [ht]; exact hI.1⟩), fun x9 hx9 => (by cases hx9)⟩, hI.2.F ht⟩) hI.2.2.2 d_Mo_replace_148)
          · omega
        · omega
      · refine sn_iconst hx hb d_Mo_replace_116 (by decide) (fun z47 hz47 => ?_)
        refine lv_goto (tgt := 121) hx hb d_Mo_replace_117 (by decide) ?_
        refine sn_iconst hx hb d_Mo_replace_121 (by decide) (fun z48 hz48 => ?_)
        refine tz_call (A1 := ga (adM a) H.size) (tz_runV (C := "StoryMachineModel") (As := [.int z47, .int z48]) (rest := []) ⟨hx, hb, hml, hown, hts⟩ (c_Mo_good l hfl dC dI cI cJ a H.size th tr dp zi co sh lt ts mf z47 z48 hok (by omega) (by omega) (by omega) (by omega)) (tx_cb (n := 2) hts rfl rfl ⟨Nat.le_of_ble_eq_true rfl, Nat.le_of_ble_eq_true rfl⟩ (tx_code.of (hts _ mw_1240)) (hts _ mw_12) (by decide +kernel) (hts _ mw_1237)) (hts _ mw_1239) (hts _ ms_Mo_good) ⟨tz_blind, sv_recv (q0 := 0) hts in_Mo hK hI kM_0 rfl, fun U hU hW => ⟨rfl, by rw [hU], by rw [hU]; exact hI.1, va_K.moved hW.alike hK, hst _ _ hI.2 U hU hW⟩⟩ rfl rfl hl.1 rfl (lv_room (Nat.le_of_ble_eq_true rfl)) d_Mo_replace_122 ⟨Nat.le_of_ble_eq_true rfl, Nat.le_of_ble_eq_true rfl⟩) hI.2 (fun q _ h => ga_sub hAC hA0 hI.2 q h) (ga_sub hAC hA0 hI.2) (fun v t H1 locs1 ht hWt hpost _ _ hS => ?_) (fun x t H1 locs1 ht hWt hpost _ _ hS => (hpost.2 x rfl).elim)
        rcases hpost.1 _ rfl with ⟨z49, t_tr50, hv, c51, c51_0, c51_1, c51_2, c51_3, hI1⟩ | ⟨z52, hv, c53, c53_0, c53_1, c53_2, c53_3, hI1⟩
        · cases hv
          have hI : sI (dC, dI) vcl cI cJ (gsM a th t_tr50 dp zi co sh lt ts mf) A s.heap H1 locs1 := ⟨by rw [← ht]; exact hI1, hS⟩
          obtain ⟨-, ⟨o54, o55⟩, -, -, -, -, -, -, -⟩ := id c51
          clear hpost hI1 hS ht hWt
          revert hI; generalize H1 = H; generalize locs1 = locs; intro hI
          refine sn_if_eq (tgt := 148) hx hb d_Mo_replace_125 (by decide) (fun b56 => ?_) (fun b56 => ?_)
          · subst hZ
            exact tz_ret (W.vret hx hb hr (fun t ht hW => ⟨⟨fun v9 hv9 => by cases hv9; exact (Or.inl ⟨t_tr50, rfl, c51, by omega, by rw [ht]; exact hI.1⟩), fun x9 hx9 => (by cases hx9)⟩, hI.2.F ht⟩) hI.2.2.2 d_Mo_replace_148)
          · omega
        · cases hv
          have hI : sI (dC, dI) vcl cI cJ (gsM a th tr dp zi co sh lt ts mf) A s.heap H1 locs1 := ⟨by rw [← ht]; exact hI1, hS⟩
          clear hpost hI1 hS ht hWt
          revert hI; generalize H1 = H; generalize locs1 = locs; intro hI
          refine sn_if_eq (tgt := 148) hx hb d_Mo_replace_125 (by decide) (fun b57 => ?_) (fun b57 => ?_)
          · omega
          · refine lv_aload_n hx hb d_Mo_replace_128 rfl (lv_at hl 0 rfl) ?_
            refine sv_getr (C := "StoryMachineModel") (T := T_Mo) (N := 51) hx hb hts in_Mo hown hK hI 0 kM_0 rfl 9 (by decide) (hts _ mw_1072) rfl d_Mo_replace_129 ?_
            refine sn_bipush hx hb d_Mo_replace_132 (by decide) (fun z58 hz58 => ?_)
            refine lv_aload_n hx hb d_Mo_replace_134 rfl (lv_at hl 0 rfl) ?_
            refine sv_gete (C := "StoryMachineModel") (T := T_Mo) (N := 51) hx hb hts in_Mo hown hK hI 0 kM_0 rfl 4 (by decide) (hts _ mw_1067) rfl d_Mo_replace_135 (fun z59 hz59 => ?_)
            refine sn_imulL (k := 15) hx hb d_Mo_replace_138 (by omega) (by omega) (by omega) (fun z60 hz60 => ?_)
            refine lv_iload_n hx hb d_Mo_replace_139 rfl (lv_at hl 1 rfl) ?_
            refine sn_iadd hx hb d_Mo_replace_140 (by omega) (by omega) (fun z61 hz61 => ?_)
            refine sn_iconst hx hb d_Mo_replace_141 (by decide) (fun z62 hz62 => ?_)
            refine sn_isub hx hb d_Mo_replace_142 (by omega) (by omega) (fun z63 hz63 => ?_)
            refine lv_iload_n hx hb d_Mo_replace_143 rfl (lv_at hl 2 rfl) ?_
            refine sn_ldc (n := 65535) hx hb hown (hts _ mw_1301) d_Mo_replace_144 (by decide) (fun z64 hz64 => ?_)
            refine sn_iand (k := 16) (M := 65535) hx hb d_Mo_replace_146 (by decide) (by decide) (by omega) (fun z65 hz65a hz65b hz65c => ?_)
            clear hz65c
            refine sv_iastr hx hb hK (sh_in adM_map hAC) hI 7 kM_7 (by omega) (by omega) (by omega) (by omega) pM_7 d_Mo_replace_147 (fun H locs hI => ?_)
            subst hZ
            exact tz_ret (W.vret hx hb hr (fun t ht hW => ⟨⟨fun v9 hv9 => by cases hv9; exact (Or.inr (⟨mf, rfl, c53, by omega, by omega, by rw [ht]; exact hI.1⟩)), fun x9 hx9 => (by cases hx9)⟩, hI.2.F ht⟩) hI.2.2.2 d_Mo_replace_148)
  have j98p : ∀ (H : Heap) (locs : List Loc) (ls : Array Slot) (t98p_tr : Int), sI (dC, dI) vcl cI cJ (gsM a th t98p_tr dp zi co sh lt ts mf) A s.heap H locs → okM th t98p_tr dp zi co sh lt ts mf → 1 ≤ t98p_tr → t98p_tr ≤ 4 → tr ≤ 0 → 0 ≤ x1.toInt → x1.toInt ≤ 0 → lv_has ls 3 [(0, .ref (a 0)), (1, .int x1), (2, .int x2)] → W p l e (headSpec tw_tbl rm_Mo_replace).room s m ([.ref (a 0), .int x1, .int x2] : List Value).toArray below meth c H locs 0 0 Z (F0 m 98 ls []) := by
    intro H locs ls t98p_tr hI hok g98_0 g98_1 g98_2 g98_3 g98_4 hl
    obtain ⟨⟨o66, o67⟩, ⟨o68, o69⟩, ⟨o70, o71⟩, ⟨o72, o73⟩, ⟨o74, o75⟩, ⟨o76, o77⟩, ⟨o78, o79⟩, ⟨o80, o81⟩, -⟩ := id hok
    refine lv_iload_n hx hb d_Mo_replace_98 rfl (lv_at hl 1 rfl) ?_
    refine sn_if_le (tgt := 148) hx hb d_Mo_replace_99 (by decide) (fun b82 => ?_) (fun b82 => ?_)
    · subst hZ
      exact tz_ret (W.vret hx hb hr (fun t ht hW => ⟨⟨fun v9 hv9 => by cases hv9; exact (Or.inl ⟨t98p_tr, rfl, hok, by omega, by rw [ht]; exact hI.1⟩), fun x9 hx9 => (by cases hx9)⟩, hI.2.F ht⟩) hI.2.2.2 d_Mo_replace_148)
    · omega
  refine lv_aload_n hx hb d_Mo_replace_0 rfl (lv_at hl 0 rfl) ?_
  refine lv_iload_n hx hb d_Mo_replace_1 rfl (lv_at hl 1 rfl) ?_
  refine sn_bipush hx hb d_Mo_replace_2 (by decide) (fun z83 hz83 => ?_)
  refine sn_icmp_ge (tgt := 11) hx hb d_Mo_replace_4 (by decide) (fun b84 => ?_) (fun b84 => ?_)
  · refine sn_iconst hx hb d_Mo_replace_11 (by decide) (fun z85 hz85 => ?_)
    refine sn_iconst hx hb d_Mo_replace_12 (by decide) (fun z86 hz86 => ?_)
    refine tz_call (A1 := ga (adM a) H.size) (tz_runV (C := "StoryMachineModel") (As := [.int z85, .int z86]) (rest := []) ⟨hx, hb, hml, hown, hts⟩ (c_Mo_good l hfl dC dI cI cJ a H.size th tr dp zi co sh lt ts mf z85 z86 hok (by omega) (by omega) (by omega) (by omega)) (tx_cb (n := 2) hts rfl rfl ⟨Nat.le_of_ble_eq_true rfl, Nat.le_of_ble_eq_true rfl⟩ (tx_code.of (hts _ mw_1240)) (hts _ mw_12) (by decide +kernel) (hts _ mw_1237)) (hts _ mw_1239) (hts _ ms_Mo_good) ⟨tz_blind, sv_recv (q0 := 0) hts in_Mo hK hI kM_0 rfl, fun U hU hW => ⟨rfl, by rw [hU], by rw [hU]; exact hI.1, va_K.moved hW.alike hK, hst _ _ hI.2 U hU hW⟩⟩ rfl rfl hl.1 rfl (lv_room (Nat.le_of_ble_eq_true rfl)) d_Mo_replace_13 ⟨Nat.le_of_ble_eq_true rfl, Nat.le_of_ble_eq_true rfl⟩) hI.2 (fun q _ h => ga_sub hAC hA0 hI.2 q h) (ga_sub hAC hA0 hI.2) (fun v t H1 locs1 ht hWt hpost _ _ hS => ?_) (fun x t H1 locs1 ht hWt hpost _ _ hS => (hpost.2 x rfl).elim)
    rcases hpost.1 _ rfl with ⟨z87, t_tr88, hv, c89, c89_0, c89_1, c89_2, c89_3, hI1⟩ | ⟨z90, hv, c91, c91_0, c91_1, c91_2, c91_3, hI1⟩
    · cases hv
      have hI : sI (dC, dI) vcl cI cJ (gsM a th t_tr88 dp zi co sh lt ts mf) A s.heap H1 locs1 := ⟨by rw [← ht]; exact hI1, hS⟩
      obtain ⟨-, ⟨o92, o93⟩, -, -, -, -, -, -, -⟩ := id c89
      clear hpost hI1 hS ht hWt
      revert hI; generalize H1 = H; generalize locs1 = locs; intro hI
      refine sn_if_ne (tgt := 20) hx hb d_Mo_replace_16 (by decide) (fun b94 => ?_) (fun b94 => ?_)
      · omega
      · subst hZ
        exact tz_ret (W.vret hx hb hr (fun t ht hW => ⟨⟨fun v9 hv9 => by cases hv9; exact (Or.inl ⟨t_tr88, rfl, c89, by omega, by rw [ht]; exact hI.1⟩), fun x9 hx9 => (by cases hx9)⟩, hI.2.F ht⟩) hI.2.2.2 d_Mo_replace_19)
    · omega
  · refine sn_iconst hx hb d_Mo_replace_7 (by decide) (fun z95 hz95 => ?_)
    refine lv_goto (tgt := 12) hx hb d_Mo_replace_8 (by decide) ?_
    refine sn_iconst hx hb d_Mo_replace_12 (by decide) (fun z96 hz96 => ?_)
    refine tz_call (A1 := ga (adM a) H.size) (tz_runV (C := "StoryMachineModel") (As := [.int z95, .int z96]) (rest := []) ⟨hx, hb, hml, hown, hts⟩ (c_Mo_good l hfl dC dI cI cJ a H.size th tr dp zi co sh lt ts mf z95 z96 hok (by omega) (by omega) (by omega) (by omega)) (tx_cb (n := 2) hts rfl rfl ⟨Nat.le_of_ble_eq_true rfl, Nat.le_of_ble_eq_true rfl⟩ (tx_code.of (hts _ mw_1240)) (hts _ mw_12) (by decide +kernel) (hts _ mw_1237)) (hts _ mw_1239) (hts _ ms_Mo_good) ⟨tz_blind, sv_recv (q0 := 0) hts in_Mo hK hI kM_0 rfl, fun U hU hW => ⟨rfl, by rw [hU], by rw [hU]; exact hI.1, va_K.moved hW.alike hK, hst _ _ hI.2 U hU hW⟩⟩ rfl rfl hl.1 rfl (lv_room (Nat.le_of_ble_eq_true rfl)) d_Mo_replace_13 ⟨Nat.le_of_ble_eq_true rfl, Nat.le_of_ble_eq_true rfl⟩) hI.2 (fun q _ h => ga_sub hAC hA0 hI.2 q h) (ga_sub hAC hA0 hI.2) (fun v t H1 locs1 ht hWt hpost _ _ hS => ?_) (fun x t H1 locs1 ht hWt hpost _ _ hS => (hpost.2 x rfl).elim)
    rcases hpost.1 _ rfl with ⟨z97, t_tr98, hv, c99, c99_0, c99_1, c99_2, c99_3, hI1⟩ | ⟨z100, hv, c101, c101_0, c101_1, c101_2, c101_3, hI1⟩
    · cases hv
      have hI : sI (dC, dI) vcl cI cJ (gsM a th t_tr98 dp zi co sh lt ts mf) A s.heap H1 locs1 := ⟨by rw [← ht]; exact hI1, hS⟩
      obtain ⟨-, ⟨o102, o103⟩, -, -, -, -, -, -, -⟩ := id c99
      clear hpost hI1 hS ht hWt
      revert hI; generalize H1 = H; generalize locs1 = locs; intro hI
      refine sn_if_ne (tgt := 20) hx hb d_Mo_replace_16 (by decide) (fun b104 => ?_) (fun b104 => ?_)
      · omega
      · subst hZ
        exact tz_ret (W.vret hx hb hr (fun t ht hW => ⟨⟨fun v9 hv9 => by cases hv9; exact (Or.inl ⟨t_tr98, rfl, c99, by omega, by rw [ht]; exact hI.1⟩), fun x9 hx9 => (by cases hx9)⟩, hI.2.F ht⟩) hI.2.2.2 d_Mo_replace_19)
    · cases hv
      have hI : sI (dC, dI) vcl cI cJ (gsM a th tr dp zi co sh lt ts mf) A s.heap H1 locs1 := ⟨by rw [← ht]; exact hI1, hS⟩
      clear hpost hI1 hS ht hWt
      revert hI; generalize H1 = H; generalize locs1 = locs; intro hI
      refine sn_if_ne (tgt := 20) hx hb d_Mo_replace_16 (by decide) (fun b105 => ?_) (fun b105 => ?_)
      · refine lv_iload_n hx hb d_Mo_replace_20 rfl (lv_at hl 1 rfl) ?_
        refine sn_bipush hx hb d_Mo_replace_21 (by decide) (fun z106 hz106 => ?_)
        refine sn_icmp_lt (tgt := 47) hx hb d_Mo_replace_23 (by decide) (fun b107 => ?_) (fun b107 => ?_)
        · refine lv_iload_n hx hb d_Mo_replace_47 rfl (lv_at hl 1 rfl) ?_
          refine sn_if_ne (tgt := 98) hx hb d_Mo_replace_48 (by decide) (fun b108 => ?_) (fun b108 => ?_)
          · exact j98z _ _ _  hI c101 (by omega) (by omega) (lv_sub hl [0, 1, 2] rfl)
          · refine lv_aload_n hx hb d_Mo_replace_51 rfl (lv_at hl 0 rfl) ?_
            refine lv_aload_n hx hb d_Mo_replace_52 rfl (lv_at hl 0 rfl) ?_
            refine sv_gete (C := "StoryMachineModel") (T := T_Mo) (N := 51) hx hb hts in_Mo hown hK hI 0 kM_0 rfl 2 (by decide) (hts _ mw_1065) rfl d_Mo_replace_53 (fun z109 hz109 => ?_)
            refine lv_aload_n hx hb d_Mo_replace_56 rfl (lv_at hl 0 rfl) ?_
            refine sv_getr (C := "StoryMachineModel") (T := T_Mo) (N := 51) hx hb hts in_Mo hown hK hI 0 kM_0 rfl 6 (by decide) (hts _ mw_1069) rfl d_Mo_replace_57 ?_
            refine lv_aload_n hx hb d_Mo_replace_60 rfl (lv_at hl 0 rfl) ?_
            refine sv_gete (C := "StoryMachineModel") (T := T_Mo) (N := 51) hx hb hts in_Mo hown hK hI 0 kM_0 rfl 4 (by decide) (hts _ mw_1067) rfl d_Mo_replace_61 (fun z110 hz110 => ?_)
            refine sv_ialdr hx hb hK hI 4 kM_4 (by omega) (by omega) d_Mo_replace_64 (fun z111 hz111a hz111b => ?_)
            refine sn_icmp_le (tgt := 72) hx hb d_Mo_replace_65 (by decide) (fun b112 => ?_) (fun b112 => ?_)
            · refine sn_iconst hx hb d_Mo_replace_72 (by decide) (fun z113 hz113 => ?_)
              refine sn_iconst hx hb d_Mo_replace_73 (by decide) (fun z114 hz114 => ?_)
              refine tz_call (A1 := ga (adM a) H.size) (tz_runV (C := "StoryMachineModel") (As := [.int z113, .int z114]) (rest := []) ⟨hx, hb, hml, hown, hts⟩ (c_Mo_good l hfl dC dI cI cJ a H.size th tr dp zi co sh lt ts mf z113 z114 c101 (by omega) (by omega) (by omega) (by omega)) (tx_cb (n := 2) hts rfl rfl ⟨Nat.le_of_ble_eq_true rfl, Nat.le_of_ble_eq_true rfl⟩ (tx_code.of (hts _ mw_1240)) (hts _ mw_12) (by decide +kernel) (hts _ mw_1237)) (hts _ mw_1239) (hts _ ms_Mo_good) ⟨tz_blind, sv_recv (q0 := 0) hts in_Mo hK hI kM_0 rfl, fun U hU hW => ⟨rfl, by rw [hU], by rw [hU]; exact hI.1, va_K.moved hW.alike hK, hst _ _ hI.2 U hU hW⟩⟩ rfl rfl hl.1 rfl (lv_room (Nat.le_of_ble_eq_true rfl)) d_Mo_replace_74 ⟨Nat.le_of_ble_eq_true rfl, Nat.le_of_ble_eq_true rfl⟩) hI.2 (fun q _ h => ga_sub hAC hA0 hI.2 q h) (ga_sub hAC hA0 hI.2) (fun v t H1 locs1 ht hWt hpost _ _ hS => ?_) (fun x t H1 locs1 ht hWt hpost _ _ hS => (hpost.2 x rfl).elim)
              rcases hpost.1 _ rfl with ⟨z115, t_tr116, hv, c117, c117_0, c117_1, c117_2, c117_3, hI1⟩ | ⟨z118, hv, c119, c119_0, c119_1, c119_2, c119_3, hI1⟩
              · cases hv
                have hI : sI (dC, dI) vcl cI cJ (gsM a th t_tr116 dp zi co sh lt ts mf) A s.heap H1 locs1 := ⟨by rw [← ht]; exact hI1, hS⟩
                obtain ⟨-, ⟨o120, o121⟩, -, -, -, -, -, -, -⟩ := id c117
                clear hpost hI1 hS ht hWt
                revert hI; generalize H1 = H; generalize locs1 = locs; intro hI
                refine sn_if_eq (tgt := 98) hx hb d_Mo_replace_77 (by decide) (fun b122 => ?_) (fun b122 => ?_)
                · exact j98p _ _ _ t_tr116 hI c117 (by omega) (by omega) (by omega) (by omega) (by omega) (lv_sub hl [0, 1, 2] rfl)
                · omega
              · omega
            · refine sn_iconst hx hb d_Mo_replace_68 (by decide) (fun z123 hz123 => ?_)
              refine lv_goto (tgt := 73) hx hb d_Mo_replace_69 (by decide) ?_
              refine sn_iconst hx hb d_Mo_replace_73 (by decide) (fun z124 hz124 => ?_)
              refine tz_call (A1 := ga (adM a) H.size) (tz_runV (C := "StoryMachineModel") (As := [.int z123, .int z124]) (rest := []) ⟨hx, hb, hml, hown, hts⟩ (c_Mo_good l hfl dC dI cI cJ a H.size th tr dp zi co sh lt ts mf z123 z124 c101 (by omega) (by omega) (by omega) (by omega)) (tx_cb (n := 2) hts rfl rfl ⟨Nat.le_of_ble_eq_true rfl, Nat.le_of_ble_eq_true rfl⟩ (tx_code.of (hts _ mw_1240)) (hts _ mw_12) (by decide +kernel) (hts _ mw_1237)) (hts _ mw_1239) (hts _ ms_Mo_good) ⟨tz_blind, sv_recv (q0 := 0) hts in_Mo hK hI kM_0 rfl, fun U hU hW => ⟨rfl, by rw [hU], by rw [hU]; exact hI.1, va_K.moved hW.alike hK, hst _ _ hI.2 U hU hW⟩⟩ rfl rfl hl.1 rfl (lv_room (Nat.le_of_ble_eq_true rfl)) d_Mo_replace_74 ⟨Nat.le_of_ble_eq_true rfl, Nat.le_of_ble_eq_true rfl⟩) hI.2 (fun q _ h => ga_sub hAC hA0 hI.2 q h) (ga_sub hAC hA0 hI.2) (fun v t H1 locs1 ht hWt hpost _ _ hS => ?_) (fun x t H1 locs1 ht hWt hpost _ _ hS => (hpost.2 x rfl).elim)
              rcases hpost.1 _ rfl with ⟨z125, t_tr126, hv, c127, c127_0, c127_1, c127_2, c127_3, hI1⟩ | ⟨z128, hv, c129, c129_0, c129_1, c129_2, c129_3, hI1⟩
              · cases hv
                have hI : sI (dC, dI) vcl cI cJ (gsM a th t_tr126 dp zi co sh lt ts mf) A s.heap H1 locs1 := ⟨by rw [← ht]; exact hI1, hS⟩
                obtain ⟨-, ⟨o130, o131⟩, -, -, -, -, -, -, -⟩ := id c127
                clear hpost hI1 hS ht hWt
                revert hI; generalize H1 = H; generalize locs1 = locs; intro hI
                refine sn_if_eq (tgt := 98) hx hb d_Mo_replace_77 (by decide) (fun b132 => ?_) (fun b132 => ?_)
                · exact j98p _ _ _ t_tr126 hI c127 (by omega) (by omega) (by omega) (by omega) (by omega) (lv_sub hl [0, 1, 2] rfl)
                · omega
              · cases hv
                have hI : sI (dC, dI) vcl cI cJ (gsM a th tr dp zi co sh lt ts mf) A s.heap H1 locs1 := ⟨by rw [← ht]; exact hI1, hS⟩
                clear hpost hI1 hS ht hWt
                revert hI; generalize H1 = H; generalize locs1 = locs; intro hI
                refine sn_if_eq (tgt := 98) hx hb d_Mo_replace_77 (by decide) (fun b133 => ?_) (fun b133 => ?_)
                · omega
                · refine lv_aload_n hx hb d_Mo_replace_80 rfl (lv_at hl 0 rfl) ?_
                  refine sv_getr (C := "StoryMachineModel") (T := T_Mo) (N := 51) hx hb hts in_Mo hown hK hI 0 kM_0 rfl 3 (by decide) (hts _ mw_1066) rfl d_Mo_replace_81 ?_
                  refine lv_aload_n hx hb d_Mo_replace_84 rfl (lv_at hl 0 rfl) ?_
                  refine sv_gete (C := "StoryMachineModel") (T := T_Mo) (N := 51) hx hb hts in_Mo hown hK hI 0 kM_0 rfl 2 (by decide) (hts _ mw_1065) rfl d_Mo_replace_85 (fun z134 hz134 => ?_)
                  refine sn_iconst hx hb d_Mo_replace_88 (by decide) (fun z135 hz135 => ?_)
                  refine sn_isub hx hb d_Mo_replace_89 (by omega) (by omega) (fun z136 hz136 => ?_)
                  refine lv_iload_n hx hb d_Mo_replace_90 rfl (lv_at hl 2 rfl) ?_
                  refine sn_ldc (n := 65535) hx hb hown (hts _ mw_1301) d_Mo_replace_91 (by decide) (fun z137 hz137 => ?_)
                  refine sn_iand (k := 16) (M := 65535) hx hb d_Mo_replace_93 (by decide) (by decide) (by omega) (fun z138 hz138a hz138b hz138c => ?_)
                  clear hz138c
                  refine sv_iastr hx hb hK (sh_in adM_map hAC) hI 2 kM_2 (by omega) (by omega) (by omega) (by omega) pM_2 d_Mo_replace_94 (fun H locs hI => ?_)
                  refine lv_goto (tgt := 148) hx hb d_Mo_replace_95 (by decide) ?_
                  subst hZ
                  exact tz_ret (W.vret hx hb hr (fun t ht hW => ⟨⟨fun v9 hv9 => by cases hv9; exact (Or.inr (⟨mf, rfl, c129, by omega, by omega, by rw [ht]; exact hI.1⟩)), fun x9 hx9 => (by cases hx9)⟩, hI.2.F ht⟩) hI.2.2.2 d_Mo_replace_148)
        · refine lv_aload_n hx hb d_Mo_replace_26 rfl (lv_at hl 0 rfl) ?_
          refine lv_aload_n hx hb d_Mo_replace_27 rfl (lv_at hl 0 rfl) ?_
          refine sn_bipush hx hb d_Mo_replace_28 (by decide) (fun z139 hz139 => ?_)
          refine tz_call (A1 := ga (adM a) H.size) (tz_runV (C := "StoryMachineModel") (As := [.int z139]) (rest := [.ref (a 0)]) ⟨hx, hb, hml, hown, hts⟩ (c_Mo_wordAt l hfl dC dI cI cJ a H.size th tr dp zi co sh lt ts mf z139 c101) (tx_cb (n := 1) hts rfl rfl ⟨Nat.le_of_ble_eq_true rfl, Nat.le_of_ble_eq_true rfl⟩ (tx_code.of (hts _ mw_1252)) (hts _ mw_12) (by decide +kernel) (hts _ mw_1249)) (hts _ mw_1251) (hts _ ms_Mo_wordAt) ⟨tz_blind, sv_recv (q0 := 0) hts in_Mo hK hI kM_0 rfl, fun U hU hW => ⟨rfl, by rw [hU], by rw [hU]; exact hI.1, va_K.moved hW.alike hK, hst _ _ hI.2 U hU hW⟩⟩ rfl rfl hl.1 rfl (lv_room (Nat.le_of_ble_eq_true rfl)) d_Mo_replace_30 ⟨Nat.le_of_ble_eq_true rfl, Nat.le_of_ble_eq_true rfl⟩) hI.2 (fun q _ h => ga_sub hAC hA0 hI.2 q h) (ga_sub hAC hA0 hI.2) (fun v t H1 locs1 ht hWt hpost _ _ hS => ?_) (fun x t H1 locs1 ht hWt hpost _ _ hS => (hpost.2 x rfl).elim)
          rcases hpost.1 _ rfl with ⟨z140, t_tr141, hv, c142, c142_0, c142_1, c142_2, hI1⟩ | ⟨z143, hv, c144, c144_0, c144_1, c144_2, c144_3, c144_4, hI1⟩
          · cases hv
            have hI : sI (dC, dI) vcl cI cJ (gsM a th t_tr141 dp zi co sh lt ts mf) A s.heap H1 locs1 := ⟨by rw [← ht]; exact hI1, hS⟩
            obtain ⟨-, ⟨o145, o146⟩, -, -, -, -, -, -, -⟩ := id c142
            clear hpost hI1 hS ht hWt
            revert hI; generalize H1 = H; generalize locs1 = locs; intro hI
            refine sn_iconst hx hb d_Mo_replace_33 (by decide) (fun z147 hz147 => ?_)
            refine lv_iload_n hx hb d_Mo_replace_34 rfl (lv_at hl 1 rfl) ?_
            refine sn_bipush hx hb d_Mo_replace_35 (by decide) (fun z148 hz148 => ?_)
            refine sn_isub hx hb d_Mo_replace_37 (by omega) (by omega) (fun z149 hz149 => ?_)
            refine sn_imulL (k := 2) hx hb d_Mo_replace_38 (by omega) (by omega) (by omega) (fun z150 hz150 => ?_)
            refine sn_iadd hx hb d_Mo_replace_39 (by omega) (by omega) (fun z151 hz151 => ?_)
            refine lv_iload_n hx hb d_Mo_replace_40 rfl (lv_at hl 2 rfl) ?_
            refine tz_call (A1 := ga (adM a) H.size) (tz_runV (C := "StoryMachineModel") (As := [.int z151, .int x2]) (rest := []) ⟨hx, hb, hml, hown, hts⟩ (c_Mo_setWord l hfl dC dI cI cJ a H.size th t_tr141 dp zi co sh lt ts mf z151 x2 c142) (tx_cb (n := 2) hts rfl rfl ⟨Nat.le_of_ble_eq_true rfl, Nat.le_of_ble_eq_true rfl⟩ (tx_code.of (hts _ mw_1309)) (hts _ mw_12) (by decide +kernel) (hts _ mw_1306)) (hts _ mw_1308) (hts _ ms_Mo_setWord) ⟨tz_blind, sv_recv (q0 := 0) hts in_Mo hK hI kM_0 rfl, fun U hU hW => ⟨rfl, by rw [hU], by rw [hU]; exact hI.1, va_K.moved hW.alike hK, hst _ _ hI.2 U hU hW⟩⟩ rfl rfl hl.1 rfl (lv_room (Nat.le_of_ble_eq_true rfl)) d_Mo_replace_41 ⟨Nat.le_of_ble_eq_true rfl, Nat.le_of_ble_eq_true rfl⟩) hI.2 (fun q _ h => ga_sub hAC hA0 hI.2 q h) (ga_sub hAC hA0 hI.2) (fun v t H1 locs1 ht hWt hpost _ _ hS => ?_) (fun x t H1 locs1 ht hWt hpost _ _ hS => (hpost.2 x rfl).elim)
            rcases hpost.1 _ rfl with ⟨t_tr152, hv, c153, c153_0, hI1⟩ | ⟨f_mf154, hv, c155, c155_0, c155_1, c155_2, hI1⟩
            · cases hv
              have hI : sI (dC, dI) vcl cI cJ (gsM a th t_tr152 dp zi co sh lt ts mf) A s.heap H1 locs1 := ⟨by rw [← ht]; exact hI1, hS⟩
              obtain ⟨-, ⟨o156, o157⟩, -, -, -, -, -, -, -⟩ := id c153
              clear hpost hI1 hS ht hWt
              revert hI; generalize H1 = H; generalize locs1 = locs; intro hI
              refine lv_goto (tgt := 148) hx hb d_Mo_replace_44 (by decide) ?_
              subst hZ
              exact tz_ret (W.vret hx hb hr (fun t ht hW => ⟨⟨fun v9 hv9 => by cases hv9; exact (Or.inl ⟨t_tr152, rfl, c153, by omega, by rw [ht]; exact hI.1⟩), fun x9 hx9 => (by cases hx9)⟩, hI.2.F ht⟩) hI.2.2.2 d_Mo_replace_148)
            · omega
          · cases hv
            have hI : sI (dC, dI) vcl cI cJ (gsM a th tr dp zi co sh lt ts mf) A s.heap H1 locs1 := ⟨by rw [← ht]; exact hI1, hS⟩
            clear hpost hI1 hS ht hWt
            revert hI; generalize H1 = H; generalize locs1 = locs; intro hI
            refine sn_iconst hx hb d_Mo_replace_33 (by decide) (fun z158 hz158 => ?_)
            refine lv_iload_n hx hb d_Mo_replace_34 rfl (lv_at hl 1 rfl) ?_
            refine sn_bipush hx hb d_Mo_replace_35 (by decide) (fun z159 hz159 => ?_)
            refine sn_isub hx hb d_Mo_replace_37 (by omega) (by omega) (fun z160 hz160 => ?_)
            refine sn_imulL (k := 2) hx hb d_Mo_replace_38 (by omega) (by omega) (by omega) (fun z161 hz161 => ?_)
            refine sn_iadd hx hb d_Mo_replace_39 (by omega) (by omega) (fun z162 hz162 => ?_)
            refine lv_iload_n hx hb d_Mo_replace_40 rfl (lv_at hl 2 rfl) ?_
            refine tz_call (A1 := ga (adM a) H.size) (tz_runV (C := "StoryMachineModel") (As := [.int z162, .int x2]) (rest := []) ⟨hx, hb, hml, hown, hts⟩ (c_Mo_setWord l hfl dC dI cI cJ a H.size th tr dp zi co sh lt ts mf z162 x2 c144) (tx_cb (n := 2) hts rfl rfl ⟨Nat.le_of_ble_eq_true rfl, Nat.le_of_ble_eq_true rfl⟩ (tx_code.of (hts _ mw_1309)) (hts _ mw_12) (by decide +kernel) (hts _ mw_1306)) (hts _ mw_1308) (hts _ ms_Mo_setWord) ⟨tz_blind, sv_recv (q0 := 0) hts in_Mo hK hI kM_0 rfl, fun U hU hW => ⟨rfl, by rw [hU], by rw [hU]; exact hI.1, va_K.moved hW.alike hK, hst _ _ hI.2 U hU hW⟩⟩ rfl rfl hl.1 rfl (lv_room (Nat.le_of_ble_eq_true rfl)) d_Mo_replace_41 ⟨Nat.le_of_ble_eq_true rfl, Nat.le_of_ble_eq_true rfl⟩) hI.2 (fun q _ h => ga_sub hAC hA0 hI.2 q h) (ga_sub hAC hA0 hI.2) (fun v t H1 locs1 ht hWt hpost _ _ hS => ?_) (fun x t H1 locs1 ht hWt hpost _ _ hS => (hpost.2 x rfl).elim)
            rcases hpost.1 _ rfl with ⟨t_tr163, hv, c164, c164_0, hI1⟩ | ⟨f_mf165, hv, c166, c166_0, c166_1, c166_2, hI1⟩
            · cases hv
              have hI : sI (dC, dI) vcl cI cJ (gsM a th t_tr163 dp zi co sh lt ts mf) A s.heap H1 locs1 := ⟨by rw [← ht]; exact hI1, hS⟩
              obtain ⟨-, ⟨o167, o168⟩, -, -, -, -, -, -, -⟩ := id c164
              clear hpost hI1 hS ht hWt
              revert hI; generalize H1 = H; generalize locs1 = locs; intro hI
              refine lv_goto (tgt := 148) hx hb d_Mo_replace_44 (by decide) ?_
              subst hZ
              exact tz_ret (W.vret hx hb hr (fun t ht hW => ⟨⟨fun v9 hv9 => by cases hv9; exact (Or.inl ⟨t_tr163, rfl, c164, by omega, by rw [ht]; exact hI.1⟩), fun x9 hx9 => (by cases hx9)⟩, hI.2.F ht⟩) hI.2.2.2 d_Mo_replace_148)
            · cases hv
              have hI : sI (dC, dI) vcl cI cJ (gsM a th tr dp zi co sh lt ts f_mf165) A s.heap H1 locs1 := ⟨by rw [← ht]; exact hI1, hS⟩
              obtain ⟨-, -, -, -, -, -, -, -, -⟩ := id c166
              clear hpost hI1 hS ht hWt
              revert hI; generalize H1 = H; generalize locs1 = locs; intro hI
              refine lv_goto (tgt := 148) hx hb d_Mo_replace_44 (by decide) ?_
              subst hZ
              exact tz_ret (W.vret hx hb hr (fun t ht hW => ⟨⟨fun v9 hv9 => by cases hv9; exact (Or.inr (⟨f_mf165, rfl, c166, by omega, by omega, by rw [ht]; exact hI.1⟩)), fun x9 hx9 => (by cases hx9)⟩, hI.2.F ht⟩) hI.2.2.2 d_Mo_replace_148)
      · omega
