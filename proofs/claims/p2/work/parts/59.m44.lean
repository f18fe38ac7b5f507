abbrev q_Mo_sizeAt (dC : Nat → ClassId) (dI : Nat → Nat → Nat) (cI cJ : ClassId) (a : Nat → Nat) (th tr dp zi co sh lt ts : Int) (mf : Nat → Int32) (x1 : Int32) (x2 : Int32) : Outcome → State → Prop := fun o t => (∀ v, o = .returned v → ((∃ (z : Int32) (tr_ : Int), v = some (.int z) ∧ okM th tr_ dp zi co sh lt ts mf ∧ (0 ≤ z.toInt) ∧ (z.toInt ≤ 66046) ∧ (1 ≤ tr_) ∧ sh_I (dC, dI) vcl cI cJ (gsM a th tr_ dp zi co sh lt ts mf) t.heap) ∨ (∃ (z : Int32), v = some (.int z) ∧ okM th tr dp zi co sh lt ts mf ∧ (1 ≤ z.toInt) ∧ (z.toInt ≤ 511) ∧ (1 ≤ x1.toInt) ∧ (x1.toInt ≤ 20) ∧ (tr ≤ 0) ∧ sh_I (dC, dI) vcl cI cJ (gsM a th tr dp zi co sh lt ts mf) t.heap))) ∧ (∀ x, o = .threw x → (False))
def rm_Mo_sizeAt : Room := { frames := 5, cells := 0, slots := 0, locals := 109 }
set_option maxHeartbeats 4000000 in
set_option maxRecDepth 100000 in
theorem c_Mo_sizeAt (l : Launch) (hfl : l.flags = pinnedFlags ++ [noTraceFlag]) (dC : Nat → ClassId) (dI : Nat → Nat → Nat) (cI cJ : ClassId) (a : Nat → Nat) (sz : Nat) (th tr dp zi co sh lt ts : Int) (mf : Nat → Int32) (x1 : Int32) (x2 : Int32) (hok : okM th tr dp zi co sh lt ts mf) : tz_Met l ⟨"StoryMachineModel", "sizeAt", "(II)I"⟩ tw_tbl rm_Mo_sizeAt (tzP (dC, dI) vcl cI cJ (gsM a th tr dp zi co sh lt ts mf) a (adM a) [.ref (a 0), .int x1, .int x2] sz) (tq_Q (q_Mo_sizeAt dC dI cI cJ a th tr dp zi co sh lt ts mf x1 x2) (ga (adM a) sz)) 0 0 0 0 (ga (adM a) sz) := by
  refine tz_ofW (cc := prog_13_method_29_code) (maxL := 5) (ret := (some .int)) (by decide) (tx_isM mw_1373) ?_
  intro p e s m args below meth c s₁ B hml hv
  obtain ⟨rfl, hsz, hI0, hK, hst0⟩ := hv
  have hx := B.exec
  have hb := B.bytes
  have hr := B.returns
  have hts := atoms_spec (ws := tw_tbl) B.pre
  have hown : s.vm.findClass "StoryMachineModel" = some m.cls := findClass_of_methodNamed B.named
  have hlocks := B.notSynchronized
  subst hsz
  have hst := fun (H : Heap) (locs : List Loc) (hS : va_S (ga (adM a) s.heap.size) s.heap H locs) (U : State) (hU : U.heap = H) (hW : s.WarmedH U.vm) => zS_all adM_map hI0 hst0 hS hU hW
  have hAC : ∀ q ∈ adM a, ga (adM a) s.heap.size q := fun q h => Or.inl h
  have hA0 : ∀ q, s.heap.size ≤ q → ga (adM a) s.heap.size q := fun q h => Or.inr h
  have hI : sI (dC, dI) vcl cI cJ (gsM a th tr dp zi co sh lt ts mf) (ga (adM a) s.heap.size) s.heap s.heap [] := ⟨hI0, va_S.rf⟩
  clear hI0 hst0
  have hl := lv_entry ([.ref (a 0), .int x1, .int x2]) (n := 5) (Nat.le_of_ble_eq_true rfl)
  rw [lg_entry_eq]
  generalize (lg_sl ([.ref (a 0), .int x1, .int x2]) ++ List.replicate (5 - (lg_sl ([.ref (a 0), .int x1, .int x2])).length) Slot.unset).toArray = ls at hl ⊢
  have hl : lv_has ls 5 [(0, .ref (a 0)), (1, .int x1), (2, .int x2)] := hl
  generalize hZ : tz_MQ below (tq_Q (q_Mo_sizeAt dC dI cI cJ a th tr dp zi co sh lt ts mf x1 x2) (ga (adM a) s.heap.size)) ([.ref (a 0), .int x1, .int x2] : List Value).toArray s 0 0 0 0 (ga (adM a) s.heap.size) = Z
  obtain ⟨A, hAe⟩ : ∃ A, A = ga (adM a) s.heap.size := ⟨_, rfl⟩
  rw [← hAe] at hst hAC hA0 hI hZ
  refine sv_start hI (fun H locs hI => ?_)
  obtain ⟨⟨o1, o2⟩, ⟨o3, o4⟩, ⟨o5, o6⟩, ⟨o7, o8⟩, ⟨o9, o10⟩, ⟨o11, o12⟩, ⟨o13, o14⟩, ⟨o15, o16⟩, -⟩ := id hok
  have gx1 := sn_rng x1
  have gx2 := sn_rng x2
  have j6p : ∀ (H : Heap) (locs : List Loc) (ls : Array Slot) (v6p_3 : Int32) (t6p_tr : Int), sI (dC, dI) vcl cI cJ (gsM a th t6p_tr dp zi co sh lt ts mf) A s.heap H locs → okM th t6p_tr dp zi co sh lt ts mf → 0 ≤ v6p_3.toInt → v6p_3.toInt ≤ 65536 → 1 ≤ t6p_tr → t6p_tr ≤ 4 → lv_has ls 5 [(0, .ref (a 0)), (1, .int x1), (2, .int x2), (3, .int v6p_3)] → W p l e (headSpec tw_tbl rm_Mo_sizeAt).room s m ([.ref (a 0), .int x1, .int x2] : List Value).toArray below meth c H locs 0 0 Z (F0 m 6 ls []) := by
    intro H locs ls v6p_3 t6p_tr hI hok g6_0 g6_1 g6_2 g6_3 hl
    obtain ⟨⟨o17, o18⟩, ⟨o19, o20⟩, ⟨o21, o22⟩, ⟨o23, o24⟩, ⟨o25, o26⟩, ⟨o27, o28⟩, ⟨o29, o30⟩, ⟨o31, o32⟩, -⟩ := id hok
    refine lv_aload_n hx hb d_Mo_sizeAt_6 rfl (lv_at hl 0 rfl) ?_
    refine sv_gete (C := "StoryMachineModel") (T := T_Mo) (N := 51) hx hb hts in_Mo hown hK hI 0 kM_0 rfl 25 (by decide) (hts _ mw_1088) rfl d_Mo_sizeAt_7 (fun z33 hz33 => ?_)
    refine sn_if_ne (tgt := 49) hx hb d_Mo_sizeAt_10 (by decide) (fun b34 => ?_) (fun b34 => ?_)
    · refine sn_iconst hx hb d_Mo_sizeAt_49 (by decide) (fun z35 hz35 => ?_)
      subst hZ
      exact tz_ret (W.iret (v := z35) hx hb hr (fun t ht hW => ⟨⟨fun v9 hv9 => by cases hv9; exact (Or.inl ⟨z35, t6p_tr, rfl, hok, by omega, by omega, by omega, by rw [ht]; exact hI.1⟩), fun x9 hx9 => (by cases hx9)⟩, hI.2.F ht⟩) hI.2.2.2 d_Mo_sizeAt_50)
    · omega
  have j6z : ∀ (n : Nat) (H : Heap) (locs : List Loc) (ls : Array Slot) (v6z_3 : Int32), sI (dC, dI) vcl cI cJ (gsM a th tr dp zi co sh lt ts mf) A s.heap H locs → okM th tr dp zi co sh lt ts mf → 1 ≤ v6z_3.toInt → v6z_3.toInt ≤ 66046 → tr ≤ 0 → 1 ≤ x1.toInt → x1.toInt ≤ 20 → lv_has ls 5 [(0, .ref (a 0)), (1, .int x1), (2, .int x2), (3, .int v6z_3)] → 70000 - v6z_3.toInt < (n : Int) → W p l e (headSpec tw_tbl rm_Mo_sizeAt).room s m ([.ref (a 0), .int x1, .int x2] : List Value).toArray below meth c H locs 0 0 Z (F0 m 6 ls []) := by
    intro n
    induction n with
    | zero => intro H locs ls v6z_3 hI hok g6_0 g6_1 g6_2 g6_3 g6_4 hl hme; exfalso; obtain ⟨⟨o36, o37⟩, ⟨o38, o39⟩, ⟨o40, o41⟩, ⟨o42, o43⟩, ⟨o44, o45⟩, ⟨o46, o47⟩, ⟨o48, o49⟩, ⟨o50, o51⟩, -⟩ := id hok; omega
    | succ n ih =>
      intro H locs ls v6z_3 hI hok g6_0 g6_1 g6_2 g6_3 g6_4 hl hme
      obtain ⟨⟨o52, o53⟩, ⟨o54, o55⟩, ⟨o56, o57⟩, ⟨o58, o59⟩, ⟨o60, o61⟩, ⟨o62, o63⟩, ⟨o64, o65⟩, ⟨o66, o67⟩, -⟩ := id hok
      refine lv_aload_n hx hb d_Mo_sizeAt_6 rfl (lv_at hl 0 rfl) ?_
      refine sv_gete (C := "StoryMachineModel") (T := T_Mo) (N := 51) hx hb hts in_Mo hown hK hI 0 kM_0 rfl 25 (by decide) (hts _ mw_1088) rfl d_Mo_sizeAt_7 (fun z68 hz68 => ?_)
      refine sn_if_ne (tgt := 49) hx hb d_Mo_sizeAt_10 (by decide) (fun b69 => ?_) (fun b69 => ?_)
      · omega
      · refine lv_aload_n hx hb d_Mo_sizeAt_13 rfl (lv_at hl 0 rfl) ?_
        refine lv_iload_n hx hb d_Mo_sizeAt_14 rfl (lv_at hl 3 rfl) ?_
        refine tz_call (A1 := ga (adM a) H.size) (tz_runV (C := "StoryMachineModel") (As := [.int v6z_3]) (rest := []) ⟨hx, hb, hml, hown, hts⟩ (c_Mo_byteAt l hfl dC dI cI cJ a H.size th tr dp zi co sh lt ts mf v6z_3 hok) (tx_cb (n := 1) hts rfl rfl ⟨Nat.le_of_ble_eq_true rfl, Nat.le_of_ble_eq_true rfl⟩ (tx_code.of (hts _ mw_1236)) (hts _ mw_12) (by decide +kernel) (hts _ mw_1233)) (hts _ mw_1235) (hts _ ms_Mo_byteAt) ⟨tz_blind, sv_recv (q0 := 0) hts in_Mo hK hI kM_0 rfl, fun U hU hW => ⟨rfl, by rw [hU], by rw [hU]; exact hI.1, va_K.moved hW.alike hK, hst _ _ hI.2 U hU hW⟩⟩ rfl rfl hl.1 rfl (lv_room (Nat.le_of_ble_eq_true rfl)) d_Mo_sizeAt_15 ⟨Nat.le_of_ble_eq_true rfl, Nat.le_of_ble_eq_true rfl⟩) hI.2 (fun q _ h => ga_sub hAC hA0 hI.2 q h) (ga_sub hAC hA0 hI.2) (fun v t H1 locs1 ht hWt hpost _ _ hS => ?_) (fun x t H1 locs1 ht hWt hpost _ _ hS => (hpost.2 x rfl).elim)
        rcases hpost.1 _ rfl with ⟨z70, t_tr71, hv, c72, c72_0, c72_1, c72_2, hI1⟩ | ⟨z73, hv, c74, c74_0, c74_1, c74_2, c74_3, c74_4, hI1⟩
        · cases hv
          have hI : sI (dC, dI) vcl cI cJ (gsM a th t_tr71 dp zi co sh lt ts mf) A s.heap H1 locs1 := ⟨by rw [← ht]; exact hI1, hS⟩
          obtain ⟨-, ⟨o75, o76⟩, -, -, -, -, -, -, -⟩ := id c72
          clear hpost hI1 hS ht hWt
          revert hI; generalize H1 = H; generalize locs1 = locs; intro hI
          refine lv_istore (lv' := [(4, .int z70), (0, .ref (a 0)), (1, .int x1), (2, .int x2), (3, .int v6z_3)]) hx hb d_Mo_sizeAt_18 hl (by decide) rfl (fun ls hl => ?_)
          refine lv_iload hx hb d_Mo_sizeAt_20 (lv_at hl 0 rfl) ?_
          refine sn_if_eq (tgt := 34) hx hb d_Mo_sizeAt_22 (by decide) (fun b77 => ?_) (fun b77 => ?_)
          · refine lv_iload_n hx hb d_Mo_sizeAt_34 rfl (lv_at hl 4 rfl) ?_
            subst hZ
            exact tz_ret (W.iret (v := v6z_3) hx hb hr (fun t ht hW => ⟨⟨fun v9 hv9 => by cases hv9; exact (Or.inl ⟨v6z_3, t_tr71, rfl, c72, by omega, by omega, by omega, by rw [ht]; exact hI.1⟩), fun x9 hx9 => (by cases hx9)⟩, hI.2.F ht⟩) hI.2.2.2 d_Mo_sizeAt_35)
          · omega
        · cases hv
          have hI : sI (dC, dI) vcl cI cJ (gsM a th tr dp zi co sh lt ts mf) A s.heap H1 locs1 := ⟨by rw [← ht]; exact hI1, hS⟩
          clear hpost hI1 hS ht hWt
          revert hI; generalize H1 = H; generalize locs1 = locs; intro hI
          refine lv_istore (lv' := [(4, .int z73), (0, .ref (a 0)), (1, .int x1), (2, .int x2), (3, .int v6z_3)]) hx hb d_Mo_sizeAt_18 hl (by decide) rfl (fun ls hl => ?_)
          refine lv_iload hx hb d_Mo_sizeAt_20 (lv_at hl 0 rfl) ?_
          refine sn_if_eq (tgt := 34) hx hb d_Mo_sizeAt_22 (by decide) (fun b78 => ?_) (fun b78 => ?_)
          · refine lv_iload_n hx hb d_Mo_sizeAt_34 rfl (lv_at hl 4 rfl) ?_
            subst hZ
            exact tz_ret (W.iret (v := v6z_3) hx hb hr (fun t ht hW => ⟨⟨fun v9 hv9 => by cases hv9; exact (Or.inr (⟨v6z_3, rfl, c74, by omega, by omega, by omega, by omega, by omega, by rw [ht]; exact hI.1⟩)), fun x9 hx9 => (by cases hx9)⟩, hI.2.F ht⟩) hI.2.2.2 d_Mo_sizeAt_35)
          · refine lv_iload hx hb d_Mo_sizeAt_25 (lv_at hl 0 rfl) ?_
            refine sn_bipush hx hb d_Mo_sizeAt_27 (by decide) (fun z79 hz79 => ?_)
            refine sn_irem (k := 32) hx hb d_Mo_sizeAt_29 (by omega) (by omega) (by omega) (fun z80 hz80 => ?_)
            refine lv_iload_n hx hb d_Mo_sizeAt_30 rfl (lv_at hl 3 rfl) ?_
            refine sn_icmp_ne (tgt := 36) hx hb d_Mo_sizeAt_31 (by decide) (fun b81 => ?_) (fun b81 => ?_)
            · refine lv_iload_n hx hb d_Mo_sizeAt_36 rfl (lv_at hl 4 rfl) ?_
              refine sn_iconst hx hb d_Mo_sizeAt_37 (by decide) (fun z82 hz82 => ?_)
              refine sn_iadd hx hb d_Mo_sizeAt_38 (by omega) (by omega) (fun z83 hz83 => ?_)
              refine lv_iload hx hb d_Mo_sizeAt_39 (lv_at hl 0 rfl) ?_
              refine sn_bipush hx hb d_Mo_sizeAt_41 (by decide) (fun z84 hz84 => ?_)
              refine sn_idiv (k := 32) hx hb d_Mo_sizeAt_43 (by omega) (by omega) (by omega) (fun z85 hz85 => ?_)
              refine sn_iadd hx hb d_Mo_sizeAt_44 (by omega) (by omega) (fun z86 hz86 => ?_)
              refine lv_istore_n (lv' := [(3, .int z86), (4, .int z73), (0, .ref (a 0)), (1, .int x1), (2, .int x2)]) hx hb d_Mo_sizeAt_45 rfl hl (by decide) rfl (fun ls hl => ?_)
              refine lv_goto (tgt := 6) hx hb d_Mo_sizeAt_46 (by decide) ?_
              exact ih _ _ _ z86 hI c74 (by omega) (by omega) (by omega) (by omega) (by omega) (lv_sub hl [2, 3, 4, 0] rfl) (by omega)
            · refine lv_iload_n hx hb d_Mo_sizeAt_34 rfl (lv_at hl 4 rfl) ?_
              subst hZ
              exact tz_ret (W.iret (v := v6z_3) hx hb hr (fun t ht hW => ⟨⟨fun v9 hv9 => by cases hv9; exact (Or.inr (⟨v6z_3, rfl, c74, by omega, by omega, by omega, by omega, by omega, by rw [ht]; exact hI.1⟩)), fun x9 hx9 => (by cases hx9)⟩, hI.2.F ht⟩) hI.2.2.2 d_Mo_sizeAt_35)
  refine lv_aload_n hx hb d_Mo_sizeAt_0 rfl (lv_at hl 0 rfl) ?_
  refine lv_iload_n hx hb d_Mo_sizeAt_1 rfl (lv_at hl 1 rfl) ?_
  refine tz_call (A1 := ga (adM a) H.size) (tz_runV (C := "StoryMachineModel") (As := [.int x1]) (rest := []) ⟨hx, hb, hml, hown, hts⟩ (c_Mo_firstProperty l hfl dC dI cI cJ a H.size th tr dp zi co sh lt ts mf x1 hok) (tx_cb (n := 1) hts rfl rfl ⟨Nat.le_of_ble_eq_true rfl, Nat.le_of_ble_eq_true rfl⟩ (tx_code.of (hts _ mw_1377)) (hts _ mw_12) (by decide +kernel) (hts _ mw_1374)) (hts _ mw_1376) (hts _ ms_Mo_firstProperty) ⟨tz_blind, sv_recv (q0 := 0) hts in_Mo hK hI kM_0 rfl, fun U hU hW => ⟨rfl, by rw [hU], by rw [hU]; exact hI.1, va_K.moved hW.alike hK, hst _ _ hI.2 U hU hW⟩⟩ rfl rfl hl.1 rfl (lv_room (Nat.le_of_ble_eq_true rfl)) d_Mo_sizeAt_2 ⟨Nat.le_of_ble_eq_true rfl, Nat.le_of_ble_eq_true rfl⟩) hI.2 (fun q _ h => ga_sub hAC hA0 hI.2 q h) (ga_sub hAC hA0 hI.2) (fun v t H1 locs1 ht hWt hpost _ _ hS => ?_) (fun x t H1 locs1 ht hWt hpost _ _ hS => (hpost.2 x rfl).elim)
  rcases hpost.1 _ rfl with ⟨z87, t_tr88, hv, c89, c89_0, c89_1, c89_2, hI1⟩ | ⟨z90, hv, c91, c91_0, c91_1, c91_2, c91_3, c91_4, hI1⟩
  · cases hv
    have hI : sI (dC, dI) vcl cI cJ (gsM a th t_tr88 dp zi co sh lt ts mf) A s.heap H1 locs1 := ⟨by rw [← ht]; exact hI1, hS⟩
    obtain ⟨-, ⟨o92, o93⟩, -, -, -, -, -, -, -⟩ := id c89
    clear hpost hI1 hS ht hWt
    revert hI; generalize H1 = H; generalize locs1 = locs; intro hI
    refine lv_istore_n (lv' := [(3, .int z87), (0, .ref (a 0)), (1, .int x1), (2, .int x2)]) hx hb d_Mo_sizeAt_5 rfl hl (by decide) rfl (fun ls hl => ?_)
    exact j6p _ _ _ z87 t_tr88 hI c89 (by omega) (by omega) (by omega) (by omega) (lv_sub hl [1, 2, 3, 0] rfl)
  · cases hv
    have hI : sI (dC, dI) vcl cI cJ (gsM a th tr dp zi co sh lt ts mf) A s.heap H1 locs1 := ⟨by rw [← ht]; exact hI1, hS⟩
    clear hpost hI1 hS ht hWt
    revert hI; generalize H1 = H; generalize locs1 = locs; intro hI
    refine lv_istore_n (lv' := [(3, .int z90), (0, .ref (a 0)), (1, .int x1), (2, .int x2)]) hx hb d_Mo_sizeAt_5 rfl hl (by decide) rfl (fun ls hl => ?_)
    exact j6z 70001 _ _ _ z90 hI c91 (by omega) (by omega) (by omega) (by omega) (by omega) (lv_sub hl [1, 2, 3, 0] rfl) (by omega)
abbrev q_Mo_bytesOf (dC : Nat → ClassId) (dI : Nat → Nat → Nat) (cI cJ : ClassId) (a : Nat → Nat) (th tr dp zi co sh lt ts : Int) (mf : Nat → Int32) (x1 : Int32) (x2 : Int32) : Outcome → State → Prop := fun o t => (∀ v, o = .returned v → ((∃ (z : Int32) (tr_ : Int), v = some (.int z) ∧ okM th tr_ dp zi co sh lt ts mf ∧ (0 ≤ z.toInt) ∧ (z.toInt ≤ 0) ∧ (1 ≤ tr_) ∧ sh_I (dC, dI) vcl cI cJ (gsM a th tr_ dp zi co sh lt ts mf) t.heap) ∨ (∃ (z : Int32), v = some (.int z) ∧ okM th tr dp zi co sh lt ts mf ∧ (0 ≤ z.toInt) ∧ (z.toInt ≤ 512) ∧ (1 ≤ x1.toInt) ∧ (x1.toInt ≤ 20) ∧ (tr ≤ 0) ∧ sh_I (dC, dI) vcl cI cJ (gsM a th tr dp zi co sh lt ts mf) t.heap))) ∧ (∀ x, o = .threw x → (False))
def rm_Mo_bytesOf : Room := { frames := 6, cells := 0, slots := 0, locals := 133 }
set_option maxHeartbeats 4000000 in
set_option maxRecDepth 100000 in
theorem c_Mo_bytesOf (l : Launch) (hfl : l.flags = pinnedFlags ++ [noTraceFlag]) (dC : Nat → ClassId) (dI : Nat → Nat → Nat) (cI cJ : ClassId) (a : Nat → Nat) (sz : Nat) (th tr dp zi co sh lt ts : Int) (mf : Nat → Int32) (x1 : Int32) (x2 : Int32) (hok : okM th tr dp zi co sh lt ts mf) : tz_Met l ⟨"StoryMachineModel", "bytesOf", "(II)I"⟩ tw_tbl rm_Mo_bytesOf (tzP (dC, dI) vcl cI cJ (gsM a th tr dp zi co sh lt ts mf) a (adM a) [.ref (a 0), .int x1, .int x2] sz) (tq_Q (q_Mo_bytesOf dC dI cI cJ a th tr dp zi co sh lt ts mf x1 x2) (ga (adM a) sz)) 0 0 0 0 (ga (adM a) sz) := by
  refine tz_ofW (cc := prog_13_method_30_code) (maxL := 4) (ret := (some .int)) (by decide) (tx_isM mw_1369) ?_
  intro p e s m args below meth c s₁ B hml hv
  obtain ⟨rfl, hsz, hI0, hK, hst0⟩ := hv
  have hx := B.exec
  have hb := B.bytes
  have hr := B.returns
  have hts := atoms_spec (ws := tw_tbl) B.pre
  have hown : s.vm.findClass "StoryMachineModel" = some m.cls := findClass_of_methodNamed B.named
  have hlocks := B.notSynchronized
  subst hsz
  have hst := fun (H : Heap) (locs : List Loc) (hS : va_S (ga (adM a) s.heap.size) s.heap H locs) (U : State) (hU : U.heap = H) (hW : s.WarmedH U.vm) => zS_all adM_map hI0 hst0 hS hU hW
  have hAC : ∀ q ∈ adM a, ga (adM a) s.heap.size q := fun q h => Or.inl h
  have hA0 : ∀ q, s.heap.size ≤ q → ga (adM a) s.heap.size q := fun q h => Or.inr h
  have hI : sI (dC, dI) vcl cI cJ (gsM a th tr dp zi co sh lt ts mf) (ga (adM a) s.heap.size) s.heap s.heap [] := ⟨hI0, va_S.rf⟩
  clear hI0 hst0
  have hl := lv_entry ([.ref (a 0), .int x1, .int x2]) (n := 4) (Nat.le_of_ble_eq_true rfl)
  rw [lg_entry_eq]
  generalize (lg_sl ([.ref (a 0), .int x1, .int x2]) ++ List.replicate (4 - (lg_sl ([.ref (a 0), .int x1, .int x2])).length) Slot.unset).toArray = ls at hl ⊢
  have hl : lv_has ls 4 [(0, .ref (a 0)), (1, .int x1), (2, .int x2)] := hl
  generalize hZ : tz_MQ below (tq_Q (q_Mo_bytesOf dC dI cI cJ a th tr dp zi co sh lt ts mf x1 x2) (ga (adM a) s.heap.size)) ([.ref (a 0), .int x1, .int x2] : List Value).toArray s 0 0 0 0 (ga (adM a) s.heap.size) = Z
  obtain ⟨A, hAe⟩ : ∃ A, A = ga (adM a) s.heap.size := ⟨_, rfl⟩
  rw [← hAe] at hst hAC hA0 hI hZ
  refine sv_start hI (fun H locs hI => ?_)
  obtain ⟨⟨o1, o2⟩, ⟨o3, o4⟩, ⟨o5, o6⟩, ⟨o7, o8⟩, ⟨o9, o10⟩, ⟨o11, o12⟩, ⟨o13, o14⟩, ⟨o15, o16⟩, -⟩ := id hok
  have gx1 := sn_rng x1
  have gx2 := sn_rng x2
  have j23p : ∀ (H : Heap) (locs : List Loc) (ls : Array Slot) (v23p_3 : Int32) (t23p_tr : Int), sI (dC, dI) vcl cI cJ (gsM a th t23p_tr dp zi co sh lt ts mf) A s.heap H locs → okM th t23p_tr dp zi co sh lt ts mf → 0 ≤ v23p_3.toInt → v23p_3.toInt ≤ 66046 → 1 ≤ t23p_tr → t23p_tr ≤ 4 → lv_has ls 4 [(0, .ref (a 0)), (1, .int x1), (2, .int x2), (3, .int v23p_3)] → W p l e (headSpec tw_tbl rm_Mo_bytesOf).room s m ([.ref (a 0), .int x1, .int x2] : List Value).toArray below meth c H locs 0 0 Z (F0 m 23 ls []) := by
    intro H locs ls v23p_3 t23p_tr hI hok g23_0 g23_1 g23_2 g23_3 hl
    obtain ⟨⟨o17, o18⟩, ⟨o19, o20⟩, ⟨o21, o22⟩, ⟨o23, o24⟩, ⟨o25, o26⟩, ⟨o27, o28⟩, ⟨o29, o30⟩, ⟨o31, o32⟩, -⟩ := id hok
    refine sn_iconst hx hb d_Mo_bytesOf_23 (by decide) (fun z33 hz33 => ?_)
    refine lv_goto (tgt := 30) hx hb d_Mo_bytesOf_24 (by decide) ?_
    subst hZ
    exact tz_ret (W.iret (v := z33) hx hb hr (fun t ht hW => ⟨⟨fun v9 hv9 => by cases hv9; exact (Or.inl ⟨z33, t23p_tr, rfl, hok, by omega, by omega, by omega, by rw [ht]; exact hI.1⟩), fun x9 hx9 => (by cases hx9)⟩, hI.2.F ht⟩) hI.2.2.2 d_Mo_bytesOf_30)
  have j23z : ∀ (H : Heap) (locs : List Loc) (ls : Array Slot) (v23z_3 : Int32), sI (dC, dI) vcl cI cJ (gsM a th tr dp zi co sh lt ts mf) A s.heap H locs → okM th tr dp zi co sh lt ts mf → 1 ≤ v23z_3.toInt → v23z_3.toInt ≤ 511 → tr ≤ 0 → 1 ≤ x1.toInt → x1.toInt ≤ 20 → lv_has ls 4 [(0, .ref (a 0)), (1, .int x1), (2, .int x2), (3, .int v23z_3)] → W p l e (headSpec tw_tbl rm_Mo_bytesOf).room s m ([.ref (a 0), .int x1, .int x2] : List Value).toArray below meth c H locs 0 0 Z (F0 m 23 ls []) := by
    intro H locs ls v23z_3 hI hok g23_0 g23_1 g23_2 g23_3 g23_4 hl
    obtain ⟨⟨o34, o35⟩, ⟨o36, o37⟩, ⟨o38, o39⟩, ⟨o40, o41⟩, ⟨o42, o43⟩, ⟨o44, o45⟩, ⟨o46, o47⟩, ⟨o48, o49⟩, -⟩ := id hok
    refine sn_iconst hx hb d_Mo_bytesOf_23 (by decide) (fun z50 hz50 => ?_)
    refine lv_goto (tgt := 30) hx hb d_Mo_bytesOf_24 (by decide) ?_
    subst hZ
    exact tz_ret (W.iret (v := z50) hx hb hr (fun t ht hW => ⟨⟨fun v9 hv9 => by cases hv9; exact (Or.inr (⟨z50, rfl, hok, by omega, by omega, by omega, by omega, by omega, by rw [ht]; exact hI.1⟩)), fun x9 hx9 => (by cases hx9)⟩, hI.2.F ht⟩) hI.2.2.2 d_Mo_bytesOf_30)
  refine lv_aload_n hx hb d_Mo_bytesOf_0 rfl (lv_at hl 0 rfl) ?_
  refine lv_iload_n hx hb d_Mo_bytesOf_1 rfl (lv_at hl 1 rfl) ?_
  refine lv_iload_n hx hb d_Mo_bytesOf_2 rfl (lv_at hl 2 rfl) ?_
  refine tz_call (A1 := ga (adM a) H.size) (tz_runV (C := "StoryMachineModel") (As := [.int x1, .int x2]) (rest := []) ⟨hx, hb, hml, hown, hts⟩ (c_Mo_sizeAt l hfl dC dI cI cJ a H.size th tr dp zi co sh lt ts mf x1 x2 hok) (tx_cb (n := 2) hts rfl rfl ⟨Nat.le_of_ble_eq_true rfl, Nat.le_of_ble_eq_true rfl⟩ (tx_code.of (hts _ mw_1373)) (hts _ mw_12) (by decide +kernel) (hts _ mw_1370)) (hts _ mw_1372) (hts _ ms_Mo_sizeAt) ⟨tz_blind, sv_recv (q0 := 0) hts in_Mo hK hI kM_0 rfl, fun U hU hW => ⟨rfl, by rw [hU], by rw [hU]; exact hI.1, va_K.moved hW.alike hK, hst _ _ hI.2 U hU hW⟩⟩ rfl rfl hl.1 rfl (lv_room (Nat.le_of_ble_eq_true rfl)) d_Mo_bytesOf_3 ⟨Nat.le_of_ble_eq_true rfl, Nat.le_of_ble_eq_true rfl⟩) hI.2 (fun q _ h => ga_sub hAC hA0 hI.2 q h) (ga_sub hAC hA0 hI.2) (fun v t H1 locs1 ht hWt hpost _ _ hS => ?_) (fun x t H1 locs1 ht hWt hpost _ _ hS => (hpost.2 x rfl).elim)
  rcases hpost.1 _ rfl with ⟨z51, t_tr52, hv, c53, c53_0, c53_1, c53_2, hI1⟩ | ⟨z54, hv, c55, c55_0, c55_1, c55_2, c55_3, c55_4, hI1⟩
  · cases hv
    have hI : sI (dC, dI) vcl cI cJ (gsM a th t_tr52 dp zi co sh lt ts mf) A s.heap H1 locs1 := ⟨by rw [← ht]; exact hI1, hS⟩
    obtain ⟨-, ⟨o56, o57⟩, -, -, -, -, -, -, -⟩ := id c53
    clear hpost hI1 hS ht hWt
    revert hI; generalize H1 = H; generalize locs1 = locs; intro hI
    refine lv_istore_n (lv' := [(3, .int z51), (0, .ref (a 0)), (1, .int x1), (2, .int x2)]) hx hb d_Mo_bytesOf_6 rfl hl (by decide) rfl (fun ls hl => ?_)
    refine lv_aload_n hx hb d_Mo_bytesOf_7 rfl (lv_at hl 1 rfl) ?_
    refine sv_gete (C := "StoryMachineModel") (T := T_Mo) (N := 51) hx hb hts in_Mo hown hK hI 0 kM_0 rfl 25 (by decide) (hts _ mw_1088) rfl d_Mo_bytesOf_8 (fun z58 hz58 => ?_)
    refine sn_if_gt (tgt := 23) hx hb d_Mo_bytesOf_11 (by decide) (fun b59 => ?_) (fun b59 => ?_)
    · exact j23p _ _ _ z51 t_tr52 hI c53 (by omega) (by omega) (by omega) (by omega) (lv_sub hl [1, 2, 3, 0] rfl)
    · omega
  · cases hv
    have hI : sI (dC, dI) vcl cI cJ (gsM a th tr dp zi co sh lt ts mf) A s.heap H1 locs1 := ⟨by rw [← ht]; exact hI1, hS⟩
    clear hpost hI1 hS ht hWt
    revert hI; generalize H1 = H; generalize locs1 = locs; intro hI
    refine lv_istore_n (lv' := [(3, .int z54), (0, .ref (a 0)), (1, .int x1), (2, .int x2)]) hx hb d_Mo_bytesOf_6 rfl hl (by decide) rfl (fun ls hl => ?_)
    refine lv_aload_n hx hb d_Mo_bytesOf_7 rfl (lv_at hl 1 rfl) ?_
    refine sv_gete (C := "StoryMachineModel") (T := T_Mo) (N := 51) hx hb hts in_Mo hown hK hI 0 kM_0 rfl 25 (by decide) (hts _ mw_1088) rfl d_Mo_bytesOf_8 (fun z60 hz60 => ?_)
    refine sn_if_gt (tgt := 23) hx hb d_Mo_bytesOf_11 (by decide) (fun b61 => ?_) (fun b61 => ?_)
    · omega
    · refine lv_aload_n hx hb d_Mo_bytesOf_14 rfl (lv_at hl 1 rfl) ?_
      refine sv_getr (C := "StoryMachineModel") (T := T_Mo) (N := 51) hx hb hts in_Mo hown hK hI 0 kM_0 rfl 1 (by decide) (hts _ mw_1064) rfl d_Mo_bytesOf_15 ?_
      refine lv_iload_n hx hb d_Mo_bytesOf_18 rfl (lv_at hl 0 rfl) ?_
      refine sv_ialde hx hb hK hI 1 kM_1 (by omega) (by omega) d_Mo_bytesOf_19 (fun z62 hz62 => ?_)
      have hz62r := c55.2.2.2.2.2.2.2.2 (z54.toNatClampNeg)
      rw [← hz62] at hz62r
      have hz62x : z62.toInt = (mf z54.toInt.toNat).toInt := by rw [hz62]; rfl
      refine sn_if_ne (tgt := 27) hx hb d_Mo_bytesOf_20 (by decide) (fun b63 => ?_) (fun b63 => ?_)
      · refine lv_iload_n hx hb d_Mo_bytesOf_27 rfl (lv_at hl 0 rfl) ?_
        refine sn_iconst hx hb d_Mo_bytesOf_28 (by decide) (fun z64 hz64 => ?_)
        refine sn_iadd hx hb d_Mo_bytesOf_29 (by omega) (by omega) (fun z65 hz65 => ?_)
        subst hZ
        exact tz_ret (W.iret (v := z65) hx hb hr (fun t ht hW => ⟨⟨fun v9 hv9 => by cases hv9; exact (Or.inr (⟨z65, rfl, c55, by omega, by omega, by omega, by omega, by omega, by rw [ht]; exact hI.1⟩)), fun x9 hx9 => (by cases hx9)⟩, hI.2.F ht⟩) hI.2.2.2 d_Mo_bytesOf_30)
      · exact j23z _ _ _ z54 hI c55 (by omega) (by omega) (by omega) (by omega) (by omega) (lv_sub hl [1, 2, 3, 0] rfl)
abbrev q_Mo_lengthAt (dC : Nat → ClassId) (dI : Nat → Nat → Nat) (cI cJ : ClassId) (a : Nat → Nat) (th tr dp zi co sh lt ts : Int) (mf : Nat → Int32) (x1 : Int32) : Outcome → State → Prop := fun o t => (∀ v, o = .returned v → ((∃ (z : Int32) (tr_ : Int), v = some (.int z) ∧ okM th tr_ dp zi co sh lt ts mf ∧ (1 ≤ z.toInt) ∧ (z.toInt ≤ 1) ∧ (1 ≤ tr_) ∧ sh_I (dC, dI) vcl cI cJ (gsM a th tr_ dp zi co sh lt ts mf) t.heap) ∨ (∃ (z : Int32), v = some (.int z) ∧ okM th tr dp zi co sh lt ts mf ∧ (1 ≤ z.toInt) ∧ (z.toInt ≤ 8) ∧ (tr ≤ 0) ∧ sh_I (dC, dI) vcl cI cJ (gsM a th tr dp zi co sh lt ts mf) t.heap))) ∧ (∀ x, o = .threw x → (False))
def rm_Mo_lengthAt : Room := { frames := 2, cells := 0, slots := 0, locals := 43 }
set_option maxHeartbeats 4000000 in
set_option maxRecDepth 100000 in
theorem c_Mo_lengthAt (l : Launch) (hfl : l.flags = pinnedFlags ++ [noTraceFlag]) (dC : Nat → ClassId) (dI : Nat → Nat → Nat) (cI cJ : ClassId) (a : Nat → Nat) (sz : Nat) (th tr dp zi co sh lt ts : Int) (mf : Nat → Int32) (x1 : Int32) (hok : okM th tr dp zi co sh lt ts mf) : tz_Met l ⟨"StoryMachineModel", "lengthAt", "(I)I"⟩ tw_tbl rm_Mo_lengthAt (tzP (dC, dI) vcl cI cJ (gsM a th tr dp zi co sh lt ts mf) a (adM a) [.ref (a 0), .int x1] sz) (tq_Q (q_Mo_lengthAt dC dI cI cJ a th tr dp zi co sh lt ts mf x1) (ga (adM a) sz)) 0 0 0 0 (ga (adM a) sz) := by
  refine tz_ofW (cc := prog_13_method_31_code) (maxL := 2) (ret := (some .int)) (by decide) (tx_isM mw_1381) ?_
  intro p e s m args below meth c s₁ B hml hv
  obtain ⟨rfl, hsz, hI0, hK, hst0⟩ := hv
  have hx := B.exec
  have hb := B.bytes
  have hr := B.returns
  have hts := atoms_spec (ws := tw_tbl) B.pre
  have hown : s.vm.findClass "StoryMachineModel" = some m.cls := findClass_of_methodNamed B.named
  have hlocks := B.notSynchronized
  subst hsz
  have hst := fun (H : Heap) (locs : List Loc) (hS : va_S (ga (adM a) s.heap.size) s.heap H locs) (U : State) (hU : U.heap = H) (hW : s.WarmedH U.vm) => zS_all adM_map hI0 hst0 hS hU hW
  have hAC : ∀ q ∈ adM a, ga (adM a) s.heap.size q := fun q h => Or.inl h
  have hA0 : ∀ q, s.heap.size ≤ q → ga (adM a) s.heap.size q := fun q h => Or.inr h
  have hI : sI (dC, dI) vcl cI cJ (gsM a th tr dp zi co sh lt ts mf) (ga (adM a) s.heap.size) s.heap s.heap [] := ⟨hI0, va_S.rf⟩
  clear hI0 hst0
  have hl := lv_entry ([.ref (a 0), .int x1]) (n := 2) (Nat.le_of_ble_eq_true rfl)
  rw [lg_entry_eq]
  generalize (lg_sl ([.ref (a 0), .int x1]) ++ List.replicate (2 - (lg_sl ([.ref (a 0), .int x1])).length) Slot.unset).toArray = ls at hl ⊢
  have hl : lv_has ls 2 [(0, .ref (a 0)), (1, .int x1)] := hl
  generalize hZ : tz_MQ below (tq_Q (q_Mo_lengthAt dC dI cI cJ a th tr dp zi co sh lt ts mf x1) (ga (adM a) s.heap.size)) ([.ref (a 0), .int x1] : List Value).toArray s 0 0 0 0 (ga (adM a) s.heap.size) = Z
  obtain ⟨A, hAe⟩ : ∃ A, A = ga (adM a) s.heap.size := ⟨_, rfl⟩
  rw [← hAe] at hst hAC hA0 hI hZ
  refine sv_start hI (fun H locs hI => ?_)
  obtain ⟨⟨o1, o2⟩, ⟨o3, o4⟩, ⟨o5, o6⟩, ⟨o7, o8⟩, ⟨o9, o10⟩, ⟨o11, o12⟩, ⟨o13, o14⟩, ⟨o15, o16⟩, -⟩ := id hok
  have gx1 := sn_rng x1
  refine sn_iconst hx hb d_Mo_lengthAt_0 (by decide) (fun z17 hz17 => ?_)
  refine lv_aload_n hx hb d_Mo_lengthAt_1 rfl (lv_at hl 0 rfl) ?_
  refine lv_iload_n hx hb d_Mo_lengthAt_2 rfl (lv_at hl 1 rfl) ?_
  refine sn_iconst hx hb d_Mo_lengthAt_3 (by decide) (fun z18 hz18 => ?_)
  refine sn_isubT hx hb d_Mo_lengthAt_4 (fun z19 hz19a hz19b => ?_)
  refine tz_call (A1 := ga (adM a) H.size) (tz_runV (C := "StoryMachineModel") (As := [.int z19]) (rest := [.int z17]) ⟨hx, hb, hml, hown, hts⟩ (c_Mo_byteAt l hfl dC dI cI cJ a H.size th tr dp zi co sh lt ts mf z19 hok) (tx_cb (n := 1) hts rfl rfl ⟨Nat.le_of_ble_eq_true rfl, Nat.le_of_ble_eq_true rfl⟩ (tx_code.of (hts _ mw_1236)) (hts _ mw_12) (by decide +kernel) (hts _ mw_1233)) (hts _ mw_1235) (hts _ ms_Mo_byteAt) ⟨tz_blind, sv_recv (q0 := 0) hts in_Mo hK hI kM_0 rfl, fun U hU hW => ⟨rfl, by rw [hU], by rw [hU]; exact hI.1, va_K.moved hW.alike hK, hst _ _ hI.2 U hU hW⟩⟩ rfl rfl hl.1 rfl (lv_room (Nat.le_of_ble_eq_true rfl)) d_Mo_lengthAt_5 ⟨Nat.le_of_ble_eq_true rfl, Nat.le_of_ble_eq_true rfl⟩) hI.2 (fun q _ h => ga_sub hAC hA0 hI.2 q h) (ga_sub hAC hA0 hI.2) (fun v t H1 locs1 ht hWt hpost _ _ hS => ?_) (fun x t H1 locs1 ht hWt hpost _ _ hS => (hpost.2 x rfl).elim)
  rcases hpost.1 _ rfl with ⟨z20, t_tr21, hv, c22, c22_0, c22_1, c22_2, hI1⟩ | ⟨z23, hv, c24, c24_0, c24_1, c24_2, c24_3, c24_4, hI1⟩
  · cases hv
    have hI : sI (dC, dI) vcl cI cJ (gsM a th t_tr21 dp zi co sh lt ts mf) A s.heap H1 locs1 := ⟨by rw [← ht]; exact hI1, hS⟩
    obtain ⟨-, ⟨o25, o26⟩, -, -, -, -, -, -, -⟩ := id c22
    clear hpost hI1 hS ht hWt
    revert hI; generalize H1 = H; generalize locs1 = locs; intro hI
    refine sn_bipush hx hb d_Mo_lengthAt_8 (by decide) (fun z27 hz27 => ?_)
    refine sn_idiv (k := 32) hx hb d_Mo_lengthAt_10 (by omega) (by omega) (by omega) (fun z28 hz28 => ?_)
    refine sn_iadd hx hb d_Mo_lengthAt_11 (by omega) (by omega) (fun z29 hz29 => ?_)
    subst hZ
    exact tz_ret (W.iret (v := z29) hx hb hr (fun t ht hW => ⟨⟨fun v9 hv9 => by cases hv9; exact (Or.inl ⟨z29, t_tr21, rfl, c22, by omega, by omega, by omega, by rw [ht]; exact hI.1⟩), fun x9 hx9 => (by cases hx9)⟩, hI.2.F ht⟩) hI.2.2.2 d_Mo_lengthAt_12)
  · cases hv
    have hI : sI (dC, dI) vcl cI cJ (gsM a th tr dp zi co sh lt ts mf) A s.heap H1 locs1 := ⟨by rw [← ht]; exact hI1, hS⟩
    clear hpost hI1 hS ht hWt
    revert hI; generalize H1 = H; generalize locs1 = locs; intro hI
    refine sn_bipush hx hb d_Mo_lengthAt_8 (by decide) (fun z30 hz30 => ?_)
    refine sn_idiv (k := 32) hx hb d_Mo_lengthAt_10 (by omega) (by omega) (by omega) (fun z31 hz31 => ?_)
    refine sn_iadd hx hb d_Mo_lengthAt_11 (by omega) (by omega) (fun z32 hz32 => ?_)
    subst hZ
    exact tz_ret (W.iret (v := z32) hx hb hr (fun t ht hW => ⟨⟨fun v9 hv9 => by cases hv9; exact (Or.inr (⟨z32, rfl, c24, by omega, by omega, by omega, by rw [ht]; exact hI.1⟩)), fun x9 hx9 => (by cases hx9)⟩, hI.2.F ht⟩) hI.2.2.2 d_Mo_lengthAt_12)
abbrev q_Mo_setProperty (dC : Nat → ClassId) (dI : Nat → Nat → Nat) (cI cJ : ClassId) (a : Nat → Nat) (th tr dp zi co sh lt ts : Int) (mf : Nat → Int32) (x1 : Int32) (x2 : Int32) (x3 : Int32) : Outcome → State → Prop := fun o t => (∀ v, o = .returned v → ((∃ (tr_ : Int), v = none ∧ okM th tr_ dp zi co sh lt ts mf ∧ (1 ≤ tr_) ∧ sh_I (dC, dI) vcl cI cJ (gsM a th tr_ dp zi co sh lt ts mf) t.heap) ∨ (∃ (mf_ : Nat → Int32), v = none ∧ okM th tr dp zi co sh lt ts mf_ ∧ (1 ≤ x1.toInt) ∧ (x1.toInt ≤ 20) ∧ (tr ≤ 0) ∧ sh_I (dC, dI) vcl cI cJ (gsM a th tr dp zi co sh lt ts mf_) t.heap))) ∧ (∀ x, o = .threw x → (False))
def rm_Mo_setProperty : Room := { frames := 7, cells := 0, slots := 0, locals := 156 }
set_option maxHeartbeats 4000000 in
set_option maxRecDepth 100000 in
theorem c_Mo_setProperty (l : Launch) (hfl : l.flags = pinnedFlags ++ [noTraceFlag]) (dC : Nat → ClassId) (dI : Nat → Nat → Nat) (cI cJ : ClassId) (a : Nat → Nat) (sz : Nat) (th tr dp zi co sh lt ts : Int) (mf : Nat → Int32) (x1 : Int32) (x2 : Int32) (x3 : Int32) (hok : okM th tr dp zi co sh lt ts mf) : tz_Met l ⟨"StoryMachineModel", "setProperty", "(III)V"⟩ tw_tbl rm_Mo_setProperty (tzP (dC, dI) vcl cI cJ (gsM a th tr dp zi co sh lt ts mf) a (adM a) [.ref (a 0), .int x1, .int x2, .int x3] sz) (tq_Q (q_Mo_setProperty dC dI cI cJ a th tr dp zi co sh lt ts mf x1 x2 x3) (ga (adM a) sz)) 0 0 0 0 (ga (adM a) sz) := by
  refine tz_ofW (cc := prog_13_method_33_code) (maxL := 6) (ret := none) (by decide) (tx_isM mw_1448) ?_
  intro p e s m args below meth c s₁ B hml hv
  obtain ⟨rfl, hsz, hI0, hK, hst0⟩ := hv
  have hx := B.exec
  have hb := B.bytes
  have hr := B.returns
  have hts := atoms_spec (ws := tw_tbl) B.pre
  have hown : s.vm.findClass "StoryMachineModel" = some m.cls := findClass_of_methodNamed B.named
  have hlocks := B.notSynchronized
  subst hsz
  have hst := fun (H : Heap) (locs : List Loc) (hS : va_S (ga (adM a) s.heap.size) s.heap H locs) (U : State) (hU : U.heap = H) (hW : s.WarmedH U.vm) => zS_all adM_map hI0 hst0 hS hU hW
  have hAC : ∀ q ∈ adM a, ga (adM a) s.heap.size q := fun q h => Or.inl h
  have hA0 : ∀ q, s.heap.size ≤ q → ga (adM a) s.heap.size q := fun q h => Or.inr h
  have hI : sI (dC, dI) vcl cI cJ (gsM a th tr dp zi co sh lt ts mf) (ga (adM a) s.heap.size) s.heap s.heap [] := ⟨hI0, va_S.rf⟩
  clear hI0 hst0
  have hl := lv_entry ([.ref (a 0), .int x1, .int x2, .int x3]) (n := 6) (Nat.le_of_ble_eq_true rfl)
  rw [lg_entry_eq]
  generalize (lg_sl ([.ref (a 0), .int x1, .int x2, .int x3]) ++ List.replicate (6 - (lg_sl ([.ref (a 0), .int x1, .int x2, .int x3])).length) Slot.unset).toArray = ls at hl ⊢
  have hl : lv_has ls 6 [(0, .ref (a 0)), (1, .int x1), (2, .int x2), (3, .int x3)] := hl
  generalize hZ : tz_MQ below (tq_Q (q_Mo_setProperty dC dI cI cJ a th tr dp zi co sh lt ts mf x1 x2 x3) (ga (adM a) s.heap.size)) ([.ref (a 0), .int x1, .int x2, .int x3] : List Value).toArray s 0 0 0 0 (ga (adM a) s.heap.size) = Z
  obtain ⟨A, hAe⟩ : ∃ A, A = ga (adM a) s.heap.size := ⟨_, rfl⟩
  rw [← hAe] at hst hAC hA0 hI hZ
  refine sv_start hI (fun H locs hI => ?_)
  obtain ⟨⟨o1, o2⟩, ⟨o3, o4⟩, ⟨o5, o6⟩, ⟨o7, o8⟩, ⟨o9, o10⟩, ⟨o11, o12⟩, ⟨o13, o14⟩, ⟨o15, o16⟩, -⟩ := id hok
  have gx1 := sn_rng x1
  have gx2 := sn_rng x2
  have gx3 := sn_rng x3
  refine lv_aload_n hx hb d_Mo_setProperty_0 rfl (lv_at hl 0 rfl) ?_
  refine lv_iload_n hx hb d_Mo_setProperty_1 rfl (lv_at hl 1 rfl) ?_
  refine lv_iload_n hx hb d_Mo_setProperty_2 rfl (lv_at hl 2 rfl) ?_
  refine tz_call (A1 := ga (adM a) H.size) (tz_runV (C := "StoryMachineModel") (As := [.int x1, .int x2]) (rest := []) ⟨hx, hb, hml, hown, hts⟩ (c_Mo_bytesOf l hfl dC dI cI cJ a H.size th tr dp zi co sh lt ts mf x1 x2 hok) (tx_cb (n := 2) hts rfl rfl ⟨Nat.le_of_ble_eq_true rfl, Nat.le_of_ble_eq_true rfl⟩ (tx_code.of (hts _ mw_1369)) (hts _ mw_12) (by decide +kernel) (hts _ mw_1366)) (hts _ mw_1368) (hts _ ms_Mo_bytesOf) ⟨tz_blind, sv_recv (q0 := 0) hts in_Mo hK hI kM_0 rfl, fun U hU hW => ⟨rfl, by rw [hU], by rw [hU]; exact hI.1, va_K.moved hW.alike hK, hst _ _ hI.2 U hU hW⟩⟩ rfl rfl hl.1 rfl (lv_room (Nat.le_of_ble_eq_true rfl)) d_Mo_setProperty_3 ⟨Nat.le_of_ble_eq_true rfl, Nat.le_of_ble_eq_true rfl⟩) hI.2 (fun q _ h => ga_sub hAC hA0 hI.2 q h) (ga_sub hAC hA0 hI.2) (fun v t H1 locs1 ht hWt hpost _ _ hS => ?_) (fun x t H1 locs1 ht hWt hpost _ _ hS => (hpost.2 x rfl).elim)
  rcases hpost.1 _ rfl with ⟨z17, t_tr18, hv, c19, c19_0, c19_1, c19_2, hI1⟩ | ⟨z20, hv, c21, c21_0, c21_1, c21_2, c21_3, c21_4, hI1⟩
  · cases hv
    have hI : sI (dC, dI) vcl cI cJ (gsM a th t_tr18 dp zi co sh lt ts mf) A s.heap H1 locs1 := ⟨by rw [← ht]; exact hI1, hS⟩
    obtain ⟨-, ⟨o22, o23⟩, -, -, -, -, -, -, -⟩ := id c19
    clear hpost hI1 hS ht hWt
    revert hI; generalize H1 = H; generalize locs1 = locs; intro hI
    refine lv_istore (lv' := [(4, .int z17), (0, .ref (a 0)), (1, .int x1), (2, .int x2), (3, .int x3)]) hx hb d_Mo_setProperty_6 hl (by decide) rfl (fun ls hl => ?_)
    refine lv_aload_n hx hb d_Mo_setProperty_8 rfl (lv_at hl 1 rfl) ?_
    refine sv_gete (C := "StoryMachineModel") (T := T_Mo) (N := 51) hx hb hts in_Mo hown hK hI 0 kM_0 rfl 25 (by decide) (hts _ mw_1088) rfl d_Mo_setProperty_9 (fun z24 hz24 => ?_)
    refine sn_if_gt (tgt := 33) hx hb d_Mo_setProperty_12 (by decide) (fun b25 => ?_) (fun b25 => ?_)
    · subst hZ
      exact tz_ret (W.vret hx hb hr (fun t ht hW => ⟨⟨fun v9 hv9 => by cases hv9; exact (Or.inl ⟨t_tr18, rfl, c19, by omega, by rw [ht]; exact hI.1⟩), fun x9 hx9 => (by cases hx9)⟩, hI.2.F ht⟩) hI.2.2.2 d_Mo_setProperty_33)
    · omega
  · cases hv
    have hI : sI (dC, dI) vcl cI cJ (gsM a th tr dp zi co sh lt ts mf) A s.heap H1 locs1 := ⟨by rw [← ht]; exact hI1, hS⟩
    clear hpost hI1 hS ht hWt
    revert hI; generalize H1 = H; generalize locs1 = locs; intro hI
    refine lv_istore (lv' := [(4, .int z20), (0, .ref (a 0)), (1, .int x1), (2, .int x2), (3, .int x3)]) hx hb d_Mo_setProperty_6 hl (by decide) rfl (fun ls hl => ?_)
    refine lv_aload_n hx hb d_Mo_setProperty_8 rfl (lv_at hl 1 rfl) ?_
    refine sv_gete (C := "StoryMachineModel") (T := T_Mo) (N := 51) hx hb hts in_Mo hown hK hI 0 kM_0 rfl 25 (by decide) (hts _ mw_1088) rfl d_Mo_setProperty_9 (fun z26 hz26 => ?_)
    refine sn_if_gt (tgt := 33) hx hb d_Mo_setProperty_12 (by decide) (fun b27 => ?_) (fun b27 => ?_)
    · omega
    · refine lv_aload_n hx hb d_Mo_setProperty_15 rfl (lv_at hl 1 rfl) ?_
      refine lv_iload hx hb d_Mo_setProperty_16 (lv_at hl 0 rfl) ?_
      refine sn_if_le (tgt := 25) hx hb d_Mo_setProperty_18 (by decide) (fun b28 => ?_) (fun b28 => ?_)
      · refine sn_iconst hx hb d_Mo_setProperty_25 (by decide) (fun z29 hz29 => ?_)
        refine sn_iconst hx hb d_Mo_setProperty_26 (by decide) (fun z30 hz30 => ?_)
        refine tz_call (A1 := ga (adM a) H.size) (tz_runV (C := "StoryMachineModel") (As := [.int z29, .int z30]) (rest := []) ⟨hx, hb, hml, hown, hts⟩ (c_Mo_good l hfl dC dI cI cJ a H.size th tr dp zi co sh lt ts mf z29 z30 c21 (by omega) (by omega) (by omega) (by omega)) (tx_cb (n := 2) hts rfl rfl ⟨Nat.le_of_ble_eq_true rfl, Nat.le_of_ble_eq_true rfl⟩ (tx_code.of (hts _ mw_1240)) (hts _ mw_12) (by decide +kernel) (hts _ mw_1237)) (hts _ mw_1239) (hts _ ms_Mo_good) ⟨tz_blind, sv_recv (q0 := 0) hts in_Mo hK hI kM_0 rfl, fun U hU hW => ⟨rfl, by rw [hU], by rw [hU]; exact hI.1, va_K.moved hW.alike hK, hst _ _ hI.2 U hU hW⟩⟩ rfl rfl hl.1 rfl (lv_room (Nat.le_of_ble_eq_true rfl)) d_Mo_setProperty_27 ⟨Nat.le_of_ble_eq_true rfl, Nat.le_of_ble_eq_true rfl⟩) hI.2 (fun q _ h => ga_sub hAC hA0 hI.2 q h) (ga_sub hAC hA0 hI.2) (fun v t H1 locs1 ht hWt hpost _ _ hS => ?_) (fun x t H1 locs1 ht hWt hpost _ _ hS => (hpost.2 x rfl).elim)
        rcases hpost.1 _ rfl with ⟨z31, t_tr32, hv, c33, c33_0, c33_1, c33_2, c33_3, hI1⟩ | ⟨z34, hv, c35, c35_0, c35_1, c35_2, c35_3, hI1⟩
        · cases hv
          have hI : sI (dC, dI) vcl cI cJ (gsM a th t_tr32 dp zi co sh lt ts mf) A s.heap H1 locs1 := ⟨by rw [← ht]; exact hI1, hS⟩
          obtain ⟨-, ⟨o36, o37⟩, -, -, -, -, -, -, -⟩ := id c33
          clear hpost hI1 hS ht hWt
          revert hI; generalize H1 = H; generalize locs1 = locs; intro hI
          refine sn_if_ne (tgt := 34) hx hb d_Mo_setProperty_30 (by decide) (fun b38 => ?_) (fun b38 => ?_)
          · omega
          · subst hZ
            exact tz_ret (W.vret hx hb hr (fun t ht hW => ⟨⟨fun v9 hv9 => by cases hv9; exact (Or.inl ⟨t_tr32, rfl, c33, by omega, by rw [ht]; exact hI.1⟩), fun x9 hx9 => (by cases hx9)⟩, hI.2.F ht⟩) hI.2.2.2 d_Mo_setProperty_33)
        · omega
      · refine sn_iconst hx hb d_Mo_setProperty_21 (by decide) (fun z39 hz39 => ?_)
        refine lv_goto (tgt := 26) hx hb d_Mo_setProperty_22 (by decide) ?_
        refine sn_iconst hx hb d_Mo_setProperty_26 (by decide) (fun z40 hz40 => ?_)
        refine tz_call (A1 := ga (adM a) H.size) (tz_runV (C := "StoryMachineModel") (As := [.int z39, .int z40]) (rest := []) ⟨hx, hb, hml, hown, hts⟩ (c_Mo_good l hfl dC dI cI cJ a H.size th tr dp zi co sh lt ts mf z39 z40 c21 (by omega) (by omega) (by omega) (by omega)) (tx_cb (n := 2) hts rfl rfl ⟨Nat.le_of_ble_eq_true rfl, Nat.le_of_ble_eq_true rfl⟩ (tx_code.of (hts _ mw_1240)) (hts _ mw_12) (by decide +kernel) (hts _ mw_1237)) (hts _ mw_1239) (hts _ ms_Mo_good) ⟨tz_blind, sv_recv (q0 := 0) hts in_Mo hK hI kM_0 rfl, fun U hU hW => ⟨rfl, by rw [hU], by rw [hU]; exact hI.1, va_K.moved hW.alike hK, hst _ _ hI.2 U hU hW⟩⟩ rfl rfl hl.1 rfl (lv_room (Nat.le_of_ble_eq_true rfl)) d_Mo_setProperty_27 ⟨Nat.le_of_ble_eq_true rfl, Nat.le_of_ble_eq_true rfl⟩) hI.2 (fun q _ h => ga_sub hAC hA0 hI.2 q h) (ga_sub hAC hA0 hI.2) (fun v t H1 locs1 ht hWt hpost _ _ hS => ?_) (fun x t H1 locs1 ht hWt hpost _ _ hS => (hpost.2 x rfl).elim)
        rcases hpost.1 _ rfl with ⟨z41, t_tr42, hv, c43, c43_0, c43_1, c43_2, c43_3, hI1⟩ | ⟨z44, hv, c45, c45_0, c45_1, c45_2, c45_3, hI1⟩
        · cases hv
          have hI : sI (dC, dI) vcl cI cJ (gsM a th t_tr42 dp zi co sh lt ts mf) A s.heap H1 locs1 := ⟨by rw [← ht]; exact hI1, hS⟩
          obtain ⟨-, ⟨o46, o47⟩, -, -, -, -, -, -, -⟩ := id c43
          clear hpost hI1 hS ht hWt
          revert hI; generalize H1 = H; generalize locs1 = locs; intro hI
          refine sn_if_ne (tgt := 34) hx hb d_Mo_setProperty_30 (by decide) (fun b48 => ?_) (fun b48 => ?_)
          · omega
          · subst hZ
            exact tz_ret (W.vret hx hb hr (fun t ht hW => ⟨⟨fun v9 hv9 => by cases hv9; exact (Or.inl ⟨t_tr42, rfl, c43, by omega, by rw [ht]; exact hI.1⟩), fun x9 hx9 => (by cases hx9)⟩, hI.2.F ht⟩) hI.2.2.2 d_Mo_setProperty_33)
        · cases hv
          have hI : sI (dC, dI) vcl cI cJ (gsM a th tr dp zi co sh lt ts mf) A s.heap H1 locs1 := ⟨by rw [← ht]; exact hI1, hS⟩
          clear hpost hI1 hS ht hWt
          revert hI; generalize H1 = H; generalize locs1 = locs; intro hI
          refine sn_if_ne (tgt := 34) hx hb d_Mo_setProperty_30 (by decide) (fun b49 => ?_) (fun b49 => ?_)
          · refine lv_aload_n hx hb d_Mo_setProperty_34 rfl (lv_at hl 1 rfl) ?_
            refine lv_iload hx hb d_Mo_setProperty_35 (lv_at hl 0 rfl) ?_
            refine tz_call (A1 := ga (adM a) H.size) (tz_runV (C := "StoryMachineModel") (As := [.int z20]) (rest := []) ⟨hx, hb, hml, hown, hts⟩ (c_Mo_lengthAt l hfl dC dI cI cJ a H.size th tr dp zi co sh lt ts mf z20 c45) (tx_cb (n := 1) hts rfl rfl ⟨Nat.le_of_ble_eq_true rfl, Nat.le_of_ble_eq_true rfl⟩ (tx_code.of (hts _ mw_1381)) (hts _ mw_12) (by decide +kernel) (hts _ mw_1378)) (hts _ mw_1380) (hts _ ms_Mo_lengthAt) ⟨tz_blind, sv_recv (q0 := 0) hts in_Mo hK hI kM_0 rfl, fun U hU hW => ⟨rfl, by rw [hU], by rw [hU]; exact hI.1, va_K.moved hW.alike hK, hst _ _ hI.2 U hU hW⟩⟩ rfl rfl hl.1 rfl (lv_room (Nat.le_of_ble_eq_true rfl)) d_Mo_setProperty_37 ⟨Nat.le_of_ble_eq_true rfl, Nat.le_of_ble_eq_true rfl⟩) hI.2 (fun q _ h => ga_sub hAC hA0 hI.2 q h) (ga_sub hAC hA0 hI.2) (fun v t H1 locs1 ht hWt hpost _ _ hS => ?_) (fun x t H1 locs1 ht hWt hpost _ _ hS => (hpost.2 x rfl).elim)
            rcases hpost.1 _ rfl with ⟨z50, t_tr51, hv, c52, c52_0, c52_1, c52_2, hI1⟩ | ⟨z53, hv, c54, c54_0, c54_1, c54_2, hI1⟩
            · cases hv
              have hI : sI (dC, dI) vcl cI cJ (gsM a th t_tr51 dp zi co sh lt ts mf) A s.heap H1 locs1 := ⟨by rw [← ht]; exact hI1, hS⟩
              obtain ⟨-, ⟨o55, o56⟩, -, -, -, -, -, -, -⟩ := id c52
              clear hpost hI1 hS ht hWt
              revert hI; generalize H1 = H; generalize locs1 = locs; intro hI
              refine lv_istore (lv' := [(5, .int z50), (4, .int z20), (0, .ref (a 0)), (1, .int x1), (2, .int x2), (3, .int x3)]) hx hb d_Mo_setProperty_40 hl (by decide) rfl (fun ls hl => ?_)
              refine lv_aload_n hx hb d_Mo_setProperty_42 rfl (lv_at hl 2 rfl) ?_
              refine lv_iload hx hb d_Mo_setProperty_43 (lv_at hl 0 rfl) ?_
              refine sn_iconst hx hb d_Mo_setProperty_45 (by decide) (fun z57 hz57 => ?_)
              refine sn_icmp_ge (tgt := 53) hx hb d_Mo_setProperty_46 (by decide) (fun b58 => ?_) (fun b58 => ?_)
              · omega
              · refine sn_iconst hx hb d_Mo_setProperty_49 (by decide) (fun z59 hz59 => ?_)
                refine lv_goto (tgt := 54) hx hb d_Mo_setProperty_50 (by decide) ?_
                refine sn_iconst hx hb d_Mo_setProperty_54 (by decide) (fun z60 hz60 => ?_)
                refine tz_call (A1 := ga (adM a) H.size) (tz_runV (C := "StoryMachineModel") (As := [.int z59, .int z60]) (rest := []) ⟨hx, hb, hml, hown, hts⟩ (c_Mo_good l hfl dC dI cI cJ a H.size th t_tr51 dp zi co sh lt ts mf z59 z60 c52 (by omega) (by omega) (by omega) (by omega)) (tx_cb (n := 2) hts rfl rfl ⟨Nat.le_of_ble_eq_true rfl, Nat.le_of_ble_eq_true rfl⟩ (tx_code.of (hts _ mw_1240)) (hts _ mw_12) (by decide +kernel) (hts _ mw_1237)) (hts _ mw_1239) (hts _ ms_Mo_good) ⟨tz_blind, sv_recv (q0 := 0) hts in_Mo hK hI kM_0 rfl, fun U hU hW => ⟨rfl, by rw [hU], by rw [hU]; exact hI.1, va_K.moved hW.alike hK, hst _ _ hI.2 U hU hW⟩⟩ rfl rfl hl.1 rfl (lv_room (Nat.le_of_ble_eq_true rfl)) d_Mo_setProperty_55 ⟨Nat.le_of_ble_eq_true rfl, Nat.le_of_ble_eq_true rfl⟩) hI.2 (fun q _ h => ga_sub hAC hA0 hI.2 q h) (ga_sub hAC hA0 hI.2) (fun v t H1 locs1 ht hWt hpost _ _ hS => ?_) (fun x t H1 locs1 ht hWt hpost _ _ hS => (hpost.2 x rfl).elim)
                rcases hpost.1 _ rfl with ⟨z61, t_tr62, hv, c63, c63_0, c63_1, c63_2, c63_3, hI1⟩ | ⟨z64, hv, c65, c65_0, c65_1, c65_2, c65_3, hI1⟩
                · cases hv
                  have hI : sI (dC, dI) vcl cI cJ (gsM a th t_tr62 dp zi co sh lt ts mf) A s.heap H1 locs1 := ⟨by rw [← ht]; exact hI1, hS⟩
                  obtain ⟨-, ⟨o66, o67⟩, -, -, -, -, -, -, -⟩ := id c63
                  clear hpost hI1 hS ht hWt
                  revert hI; generalize H1 = H; generalize locs1 = locs; intro hI
                  refine sn_if_ne (tgt := 62) hx hb d_Mo_setProperty_58 (by decide) (fun b68 => ?_) (fun b68 => ?_)
                  · omega
                  · subst hZ
                    exact tz_ret (W.vret hx hb hr (fun t ht hW => ⟨⟨fun v9 hv9 => by cases hv9; exact (Or.inl ⟨t_tr62, rfl, c63, by omega, by rw [ht]; exact hI.1⟩), fun x9 hx9 => (by cases hx9)⟩, hI.2.F ht⟩) hI.2.2.2 d_Mo_setProperty_61)
                · omega
            · cases hv
              have hI : sI (dC, dI) vcl cI cJ (gsM a th tr dp zi co sh lt ts mf) A s.heap H1 locs1 := ⟨by rw [← ht]; exact hI1, hS⟩
              clear hpost hI1 hS ht hWt
              revert hI; generalize H1 = H; generalize locs1 = locs; intro hI
              refine lv_istore (lv' := [(5, .int z53), (4, .int z20), (0, .ref (a 0)), (1, .int x1), (2, .int x2), (3, .int x3)]) hx hb d_Mo_setProperty_40 hl (by decide) rfl (fun ls hl => ?_)
              refine lv_aload_n hx hb d_Mo_setProperty_42 rfl (lv_at hl 2 rfl) ?_
              refine lv_iload hx hb d_Mo_setProperty_43 (lv_at hl 0 rfl) ?_
              refine sn_iconst hx hb d_Mo_setProperty_45 (by decide) (fun z69 hz69 => ?_)
              refine sn_icmp_ge (tgt := 53) hx hb d_Mo_setProperty_46 (by decide) (fun b70 => ?_) (fun b70 => ?_)
              · refine sn_iconst hx hb d_Mo_setProperty_53 (by decide) (fun z71 hz71 => ?_)
                refine sn_iconst hx hb d_Mo_setProperty_54 (by decide) (fun z72 hz72 => ?_)
                refine tz_call (A1 := ga (adM a) H.size) (tz_runV (C := "StoryMachineModel") (As := [.int z71, .int z72]) (rest := []) ⟨hx, hb, hml, hown, hts⟩ (c_Mo_good l hfl dC dI cI cJ a H.size th tr dp zi co sh lt ts mf z71 z72 c54 (by omega) (by omega) (by omega) (by omega)) (tx_cb (n := 2) hts rfl rfl ⟨Nat.le_of_ble_eq_true rfl, Nat.le_of_ble_eq_true rfl⟩ (tx_code.of (hts _ mw_1240)) (hts _ mw_12) (by decide +kernel) (hts _ mw_1237)) (hts _ mw_1239) (hts _ ms_Mo_good) ⟨tz_blind, sv_recv (q0 := 0) hts in_Mo hK hI kM_0 rfl, fun U hU hW => ⟨rfl, by rw [hU], by rw [hU]; exact hI.1, va_K.moved hW.alike hK, hst _ _ hI.2 U hU hW⟩⟩ rfl rfl hl.1 rfl (lv_room (Nat.le_of_ble_eq_true rfl)) d_Mo_setProperty_55 ⟨Nat.le_of_ble_eq_true rfl, Nat.le_of_ble_eq_true rfl⟩) hI.2 (fun q _ h => ga_sub hAC hA0 hI.2 q h) (ga_sub hAC hA0 hI.2) (fun v t H1 locs1 ht hWt hpost _ _ hS => ?_) (fun x t H1 locs1 ht hWt hpost _ _ hS => (hpost.2 x rfl).elim)
                rcases hpost.1 _ rfl with ⟨z73, t_tr74, hv, c75, c75_0, c75_1, c75_2, c75_3, hI1⟩ | ⟨z76, hv, c77, c77_0, c77_1, c77_2, c77_3, hI1⟩
                · cases hv
                  have hI : sI (dC, dI) vcl cI cJ (gsM a th t_tr74 dp zi co sh lt ts mf) A s.heap H1 locs1 := ⟨by rw [← ht]; exact hI1, hS⟩
                  obtain ⟨-, ⟨o78, o79⟩, -, -, -, -, -, -, -⟩ := id c75
                  clear hpost hI1 hS ht hWt
                  revert hI; generalize H1 = H; generalize locs1 = locs; intro hI
                  refine sn_if_ne (tgt := 62) hx hb d_Mo_setProperty_58 (by decide) (fun b80 => ?_) (fun b80 => ?_)
                  · omega
                  · subst hZ
                    exact tz_ret (W.vret hx hb hr (fun t ht hW => ⟨⟨fun v9 hv9 => by cases hv9; exact (Or.inl ⟨t_tr74, rfl, c75, by omega, by rw [ht]; exact hI.1⟩), fun x9 hx9 => (by cases hx9)⟩, hI.2.F ht⟩) hI.2.2.2 d_Mo_setProperty_61)
                · omega
              · refine sn_iconst hx hb d_Mo_setProperty_49 (by decide) (fun z81 hz81 => ?_)
                refine lv_goto (tgt := 54) hx hb d_Mo_setProperty_50 (by decide) ?_
                refine sn_iconst hx hb d_Mo_setProperty_54 (by decide) (fun z82 hz82 => ?_)
                refine tz_call (A1 := ga (adM a) H.size) (tz_runV (C := "StoryMachineModel") (As := [.int z81, .int z82]) (rest := []) ⟨hx, hb, hml, hown, hts⟩ (c_Mo_good l hfl dC dI cI cJ a H.size th tr dp zi co sh lt ts mf z81 z82 c54 (by omega) (by omega) (by omega) (by omega)) (tx_cb (n := 2) hts rfl rfl ⟨Nat.le_of_ble_eq_true rfl, Nat.le_of_ble_eq_true rfl⟩ (tx_code.of (hts _ mw_1240)) (hts _ mw_12) (by decide +kernel) (hts _ mw_1237)) (hts _ mw_1239) (hts _ ms_Mo_good) ⟨tz_blind, sv_recv (q0 := 0) hts in_Mo hK hI kM_0 rfl, fun U hU hW => ⟨rfl, by rw [hU], by rw [hU]; exact hI.1, va_K.moved hW.alike hK, hst _ _ hI.2 U hU hW⟩⟩ rfl rfl hl.1 rfl (lv_room (Nat.le_of_ble_eq_true rfl)) d_Mo_setProperty_55 ⟨Nat.le_of_ble_eq_true rfl, Nat.le_of_ble_eq_true rfl⟩) hI.2 (fun q _ h => ga_sub hAC hA0 hI.2 q h) (ga_sub hAC hA0 hI.2) (fun v t H1 locs1 ht hWt hpost _ _ hS => ?_) (fun x t H1 locs1 ht hWt hpost _ _ hS => (hpost.2 x rfl).elim)
                rcases hpost.1 _ rfl with ⟨z83, t_tr84, hv, c85, c85_0, c85_1, c85_2, c85_3, hI1⟩ | ⟨z86, hv, c87, c87_0, c87_1, c87_2, c87_3, hI1⟩
                · cases hv
                  have hI : sI (dC, dI) vcl cI cJ (gsM a th t_tr84 dp zi co sh lt ts mf) A s.heap H1 locs1 := ⟨by rw [← ht]; exact hI1, hS⟩
                  obtain ⟨-, ⟨o88, o89⟩, -, -, -, -, -, -, -⟩ := id c85
                  clear hpost hI1 hS ht hWt
                  revert hI; generalize H1 = H; generalize locs1 = locs; intro hI
                  refine sn_if_ne (tgt := 62) hx hb d_Mo_setProperty_58 (by decide) (fun b90 => ?_) (fun b90 => ?_)
                  · omega
                  · subst hZ
                    exact tz_ret (W.vret hx hb hr (fun t ht hW => ⟨⟨fun v9 hv9 => by cases hv9; exact (Or.inl ⟨t_tr84, rfl, c85, by omega, by rw [ht]; exact hI.1⟩), fun x9 hx9 => (by cases hx9)⟩, hI.2.F ht⟩) hI.2.2.2 d_Mo_setProperty_61)
                · cases hv
                  have hI : sI (dC, dI) vcl cI cJ (gsM a th tr dp zi co sh lt ts mf) A s.heap H1 locs1 := ⟨by rw [← ht]; exact hI1, hS⟩
                  clear hpost hI1 hS ht hWt
                  revert hI; generalize H1 = H; generalize locs1 = locs; intro hI
                  refine sn_if_ne (tgt := 62) hx hb d_Mo_setProperty_58 (by decide) (fun b91 => ?_) (fun b91 => ?_)
                  · refine lv_iload hx hb d_Mo_setProperty_62 (lv_at hl 0 rfl) ?_
                    refine sn_iconst hx hb d_Mo_setProperty_64 (by decide) (fun z92 hz92 => ?_)
                    refine sn_icmp_ne (tgt := 78) hx hb d_Mo_setProperty_65 (by decide) (fun b93 => ?_) (fun b93 => ?_)
                    · refine lv_aload_n hx hb d_Mo_setProperty_78 rfl (lv_at hl 2 rfl) ?_
                      refine lv_iload hx hb d_Mo_setProperty_79 (lv_at hl 1 rfl) ?_
                      refine lv_iload_n hx hb d_Mo_setProperty_81 rfl (lv_at hl 5 rfl) ?_
                      refine tz_call (A1 := ga (adM a) H.size) (tz_runV (C := "StoryMachineModel") (As := [.int z20, .int x3]) (rest := []) ⟨hx, hb, hml, hown, hts⟩ (c_Mo_setWord l hfl dC dI cI cJ a H.size th tr dp zi co sh lt ts mf z20 x3 c87) (tx_cb (n := 2) hts rfl rfl ⟨Nat.le_of_ble_eq_true rfl, Nat.le_of_ble_eq_true rfl⟩ (tx_code.of (hts _ mw_1309)) (hts _ mw_12) (by decide +kernel) (hts _ mw_1306)) (hts _ mw_1308) (hts _ ms_Mo_setWord) ⟨tz_blind, sv_recv (q0 := 0) hts in_Mo hK hI kM_0 rfl, fun U hU hW => ⟨rfl, by rw [hU], by rw [hU]; exact hI.1, va_K.moved hW.alike hK, hst _ _ hI.2 U hU hW⟩⟩ rfl rfl hl.1 rfl (lv_room (Nat.le_of_ble_eq_true rfl)) d_Mo_setProperty_82 ⟨Nat.le_of_ble_eq_true rfl, Nat.le_of_ble_eq_true rfl⟩) hI.2 (fun q _ h => ga_sub hAC hA0 hI.2 q h) (ga_sub hAC hA0 hI.2) (fun v t H1 locs1 ht hWt hpost _ _ hS => ?_) (fun x t H1 locs1 ht hWt hpost _ _ hS => (hpost.2 x rfl).elim)
                      rcases hpost.1 _ rfl with ⟨t_tr94, hv, c95, c95_0, hI1⟩ | ⟨f_mf96, hv, c97, c97_0, c97_1, c97_2, hI1⟩
                      · cases hv
                        have hI : sI (dC, dI) vcl cI cJ (gsM a th t_tr94 dp zi co sh lt ts mf) A s.heap H1 locs1 := ⟨by rw [← ht]; exact hI1, hS⟩
                        obtain ⟨-, ⟨o98, o99⟩, -, -, -, -, -, -, -⟩ := id c95
                        clear hpost hI1 hS ht hWt
                        revert hI; generalize H1 = H; generalize locs1 = locs; intro hI
                        subst hZ
                        exact tz_ret (W.vret hx hb hr (fun t ht hW => ⟨⟨fun v9 hv9 => by cases hv9; exact (Or.inl ⟨t_tr94, rfl, c95, by omega, by rw [ht]; exact hI.1⟩), fun x9 hx9 => (by cases hx9)⟩, hI.2.F ht⟩) hI.2.2.2 d_Mo_setProperty_85)
                      · cases hv
                        have hI : sI (dC, dI) vcl cI cJ (gsM a th tr dp zi co sh lt ts f_mf96) A s.heap H1 locs1 := ⟨by rw [← ht]; exact hI1, hS⟩
                        obtain ⟨-, -, -, -, -, -, -, -, -⟩ := id c97
                        clear hpost hI1 hS ht hWt
                        revert hI; generalize H1 = H; generalize locs1 = locs; intro hI
                        subst hZ
                        exact tz_ret (W.vret hx hb hr (fun t ht hW => ⟨⟨fun v9 hv9 => by cases hv9; exact (Or.inr (⟨f_mf96, rfl, c97, by omega, by omega, by omega, by rw [ht]; exact hI.1⟩)), fun x9 hx9 => (by cases hx9)⟩, hI.2.F ht⟩) hI.2.2.2 d_Mo_setProperty_85)
                    · refine lv_aload_n hx hb d_Mo_setProperty_68 rfl (lv_at hl 2 rfl) ?_
                      refine lv_iload hx hb d_Mo_setProperty_69 (lv_at hl 1 rfl) ?_
                      refine lv_iload_n hx hb d_Mo_setProperty_71 rfl (lv_at hl 5 rfl) ?_
                      refine tz_call (A1 := ga (adM a) H.size) (tz_runV (C := "StoryMachineModel") (As := [.int z20, .int x3]) (rest := []) ⟨hx, hb, hml, hown, hts⟩ (c_Mo_setByte l hfl dC dI cI cJ a H.size th tr dp zi co sh lt ts mf z20 x3 c87) (tx_cb (n := 2) hts rfl rfl ⟨Nat.le_of_ble_eq_true rfl, Nat.le_of_ble_eq_true rfl⟩ (tx_code.of (hts _ mw_1353)) (hts _ mw_12) (by decide +kernel) (hts _ mw_1350)) (hts _ mw_1352) (hts _ ms_Mo_setByte) ⟨tz_blind, sv_recv (q0 := 0) hts in_Mo hK hI kM_0 rfl, fun U hU hW => ⟨rfl, by rw [hU], by rw [hU]; exact hI.1, va_K.moved hW.alike hK, hst _ _ hI.2 U hU hW⟩⟩ rfl rfl hl.1 rfl (lv_room (Nat.le_of_ble_eq_true rfl)) d_Mo_setProperty_72 ⟨Nat.le_of_ble_eq_true rfl, Nat.le_of_ble_eq_true rfl⟩) hI.2 (fun q _ h => ga_sub hAC hA0 hI.2 q h) (ga_sub hAC hA0 hI.2) (fun v t H1 locs1 ht hWt hpost _ _ hS => ?_) (fun x t H1 locs1 ht hWt hpost _ _ hS => (hpost.2 x rfl).elim)
                      rcases hpost.1 _ rfl with ⟨t_tr100, hv, c101, c101_0, hI1⟩ | ⟨f_mf102, hv, c103, c103_0, c103_1, c103_2, hI1⟩
                      · cases hv
                        have hI : sI (dC, dI) vcl cI cJ (gsM a th t_tr100 dp zi co sh lt ts mf) A s.heap H1 locs1 := ⟨by rw [← ht]; exact hI1, hS⟩
                        obtain ⟨-, ⟨o104, o105⟩, -, -, -, -, -, -, -⟩ := id c101
                        clear hpost hI1 hS ht hWt
                        revert hI; generalize H1 = H; generalize locs1 = locs; intro hI
                        refine lv_goto (tgt := 85) hx hb d_Mo_setProperty_75 (by decide) ?_
                        subst hZ
                        exact tz_ret (W.vret hx hb hr (fun t ht hW => ⟨⟨fun v9 hv9 => by cases hv9; exact (Or.inl ⟨t_tr100, rfl, c101, by omega, by rw [ht]; exact hI.1⟩), fun x9 hx9 => (by cases hx9)⟩, hI.2.F ht⟩) hI.2.2.2 d_Mo_setProperty_85)
                      · cases hv
                        have hI : sI (dC, dI) vcl cI cJ (gsM a th tr dp zi co sh lt ts f_mf102) A s.heap H1 locs1 := ⟨by rw [← ht]; exact hI1, hS⟩
                        obtain ⟨-, -, -, -, -, -, -, -, -⟩ := id c103
                        clear hpost hI1 hS ht hWt
                        revert hI; generalize H1 = H; generalize locs1 = locs; intro hI
                        refine lv_goto (tgt := 85) hx hb d_Mo_setProperty_75 (by decide) ?_
                        subst hZ
                        exact tz_ret (W.vret hx hb hr (fun t ht hW => ⟨⟨fun v9 hv9 => by cases hv9; exact (Or.inr (⟨f_mf102, rfl, c103, by omega, by omega, by omega, by rw [ht]; exact hI.1⟩)), fun x9 hx9 => (by cases hx9)⟩, hI.2.F ht⟩) hI.2.2.2 d_Mo_setProperty_85)
                  · omega
          · omega
