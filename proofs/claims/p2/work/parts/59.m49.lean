abbrev q_Mo_copy_7_14 (dC : Nat → ClassId) (dI : Nat → Nat → Nat) (cI cJ : ClassId) (a : Nat → Nat) (th tr dp zi co sh lt ts : Int) (mf : Nat → Int32) (x2 : Int32) : Outcome → State → Prop := fun o t => (∀ v, o = .returned v → ((v = none ∧ okM th tr dp zi co sh lt ts mf ∧ sh_I (dC, dI) vcl cI cJ (gsM a th tr dp zi co sh lt ts mf) t.heap))) ∧ (∀ x, o = .threw x → (False))
def rm_Mo_copy_7_14 : Room := { frames := 0, cells := 0, slots := 0, locals := 0 }
set_option maxHeartbeats 4000000 in
set_option maxRecDepth 100000 in
theorem c_Mo_copy_7_14 (l : Launch) (hfl : l.flags = pinnedFlags ++ [noTraceFlag]) (dC : Nat → ClassId) (dI : Nat → Nat → Nat) (cI cJ : ClassId) (a : Nat → Nat) (sz : Nat) (th tr dp zi co sh lt ts : Int) (mf : Nat → Int32) (x2 : Int32) (hok : okM th tr dp zi co sh lt ts mf) (hp0 : 165 ≤ x2.toInt) (hp1 : x2.toInt ≤ 165) : tz_Met l ⟨"StoryMachineModel", "copy", "([I[II)V"⟩ tw_tbl rm_Mo_copy_7_14 (tzP (dC, dI) vcl cI cJ (gsM a th tr dp zi co sh lt ts mf) a (adM a) [.ref (a 7), .ref (a 14), .int x2] sz) (tq_Q (q_Mo_copy_7_14 dC dI cI cJ a th tr dp zi co sh lt ts mf x2) (ga (adM a) sz)) 0 0 0 0 (ga (adM a) sz) := by
  refine tz_ofW (cc := prog_13_method_56_code) (maxL := 4) (ret := none) (by decide) (tx_isM mw_1428) ?_
  intro p e s m args below meth c s₁ B hml hv
  obtain ⟨rfl, hsz, hI0, hK, hst0⟩ := hv
  have hx := B.exec
  have hb := B.bytes
  have hr := B.returns
  have hts := atoms_spec (ws := tw_tbl) B.pre
  have hown : s.vm.findClass "StoryMachineModel" = some m.cls := findClass_of_methodNamed B.named
  have hlocks := B.notSynchronized
  subst hsz
  have hst := fun (H : Heap) (locs : List Loc) (hS : va_S (ga (adM a) s.heap.size) s.heap H locs) (U : State) (hU : U.heap = H) (hW : s.WarmedH U.vm) => zS_all adM_map hI0 hst0 hS hU hW
  have hAC : ∀ q ∈ adM a, ga (adM a) s.heap.size q := fun q h => Or.inl h
  have hA0 : ∀ q, s.heap.size ≤ q → ga (adM a) s.heap.size q := fun q h => Or.inr h
  have hI : sI (dC, dI) vcl cI cJ (gsM a th tr dp zi co sh lt ts mf) (ga (adM a) s.heap.size) s.heap s.heap [] := ⟨hI0, va_S.rf⟩
  clear hI0 hst0
  have hl := lv_entry ([.ref (a 7), .ref (a 14), .int x2]) (n := 4) (Nat.le_of_ble_eq_true rfl)
  rw [lg_entry_eq]
  generalize (lg_sl ([.ref (a 7), .ref (a 14), .int x2]) ++ List.replicate (4 - (lg_sl ([.ref (a 7), .ref (a 14), .int x2])).length) Slot.unset).toArray = ls at hl ⊢
  have hl : lv_has ls 4 [(0, .ref (a 7)), (1, .ref (a 14)), (2, .int x2)] := hl
  generalize hZ : tz_MQ below (tq_Q (q_Mo_copy_7_14 dC dI cI cJ a th tr dp zi co sh lt ts mf x2) (ga (adM a) s.heap.size)) ([.ref (a 7), .ref (a 14), .int x2] : List Value).toArray s 0 0 0 0 (ga (adM a) s.heap.size) = Z
  obtain ⟨A, hAe⟩ : ∃ A, A = ga (adM a) s.heap.size := ⟨_, rfl⟩
  rw [← hAe] at hst hAC hA0 hI hZ
  refine sv_start hI (fun H locs hI => ?_)
  obtain ⟨⟨o1, o2⟩, ⟨o3, o4⟩, ⟨o5, o6⟩, ⟨o7, o8⟩, ⟨o9, o10⟩, ⟨o11, o12⟩, ⟨o13, o14⟩, ⟨o15, o16⟩, -⟩ := id hok
  have gx2 := sn_rng x2
  have j2 : ∀ (n : Nat) (H : Heap) (locs : List Loc) (ls : Array Slot) (v2_3 : Int32), sI (dC, dI) vcl cI cJ (gsM a th tr dp zi co sh lt ts mf) A s.heap H locs → okM th tr dp zi co sh lt ts mf → 0 ≤ v2_3.toInt → v2_3.toInt ≤ 165 → lv_has ls 4 [(0, .ref (a 7)), (1, .ref (a 14)), (2, .int x2), (3, .int v2_3)] → 165 - v2_3.toInt < (n : Int) → W p l e (headSpec tw_tbl rm_Mo_copy_7_14).room s m ([.ref (a 7), .ref (a 14), .int x2] : List Value).toArray below meth c H locs 0 0 Z (F0 m 2 ls []) := by
    intro n
    induction n with
    | zero => intro H locs ls v2_3 hI hok g2_0 g2_1 hl hme; exfalso; obtain ⟨⟨o17, o18⟩, ⟨o19, o20⟩, ⟨o21, o22⟩, ⟨o23, o24⟩, ⟨o25, o26⟩, ⟨o27, o28⟩, ⟨o29, o30⟩, ⟨o31, o32⟩, -⟩ := id hok; omega
    | succ n ih =>
      intro H locs ls v2_3 hI hok g2_0 g2_1 hl hme
      obtain ⟨⟨o33, o34⟩, ⟨o35, o36⟩, ⟨o37, o38⟩, ⟨o39, o40⟩, ⟨o41, o42⟩, ⟨o43, o44⟩, ⟨o45, o46⟩, ⟨o47, o48⟩, -⟩ := id hok
      refine lv_iload_n hx hb d_Mo_copy_2 rfl (lv_at hl 3 rfl) ?_
      refine lv_iload_n hx hb d_Mo_copy_3 rfl (lv_at hl 2 rfl) ?_
      refine sn_icmp_ge (tgt := 19) hx hb d_Mo_copy_4 (by decide) (fun b49 => ?_) (fun b49 => ?_)
      · subst hZ
        exact tz_ret (W.vret hx hb hr (fun t ht hW => ⟨⟨fun v9 hv9 => by cases hv9; exact (⟨rfl, hok, by rw [ht]; exact hI.1⟩), fun x9 hx9 => (by cases hx9)⟩, hI.2.F ht⟩) hI.2.2.2 d_Mo_copy_19)
      · refine lv_aload_n hx hb d_Mo_copy_7 rfl (lv_at hl 1 rfl) ?_
        refine lv_iload_n hx hb d_Mo_copy_8 rfl (lv_at hl 3 rfl) ?_
        refine lv_aload_n hx hb d_Mo_copy_9 rfl (lv_at hl 0 rfl) ?_
        refine lv_iload_n hx hb d_Mo_copy_10 rfl (lv_at hl 3 rfl) ?_
        refine sv_ialdr hx hb hK hI 7 kM_7 (by omega) (by omega) d_Mo_copy_11 (fun z50 hz50a hz50b => ?_)
        refine sv_iastr hx hb hK (sh_in adM_map hAC) hI 14 kM_14 (by omega) (by omega) (by omega) (by omega) pM_14 d_Mo_copy_12 (fun H locs hI => ?_)
        refine sn_iinc (k := 3) hx hb d_Mo_copy_13 hl rfl (by decide) (by decide) (by omega) (by omega) (fun ls z51 hz51 hl => ?_)
        have hl : lv_has ls 4 [(3, .int z51), (0, .ref (a 7)), (1, .ref (a 14)), (2, .int x2)] := hl
        refine lv_goto (tgt := 2) hx hb d_Mo_copy_16 (by decide) ?_
        exact ih _ _ _ z51 hI hok (by omega) (by omega) (lv_sub hl [1, 2, 3, 0] rfl) (by omega)
  refine sn_iconst hx hb d_Mo_copy_0 (by decide) (fun z52 hz52 => ?_)
  refine lv_istore_n (lv' := [(3, .int z52), (0, .ref (a 7)), (1, .ref (a 14)), (2, .int x2)]) hx hb d_Mo_copy_1 rfl hl (by decide) rfl (fun ls hl => ?_)
  exact j2 166 _ _ _ z52 hI hok (by omega) (by omega) (lv_sub hl [1, 2, 3, 0] rfl) (by omega)
abbrev q_Mo_save (dC : Nat → ClassId) (dI : Nat → Nat → Nat) (cI cJ : ClassId) (a : Nat → Nat) (th tr dp zi co sh lt ts : Int) (mf : Nat → Int32) : Outcome → State → Prop := fun o t => (∀ v, o = .returned v → ((∃ (tr_ dp_ zi_ : Int), v = none ∧ okM th tr_ dp_ zi_ co sh lt ts mf ∧ (1 ≤ tr_) ∧ sh_I (dC, dI) vcl cI cJ (gsM a th tr_ dp_ zi_ co sh lt ts mf) t.heap) ∨ (∃ (dp_ zi_ : Int) (mf_ : Nat → Int32), v = none ∧ okM th tr dp_ zi_ co sh lt ts mf_ ∧ (tr ≤ 0) ∧ sh_I (dC, dI) vcl cI cJ (gsM a th tr dp_ zi_ co sh lt ts mf_) t.heap))) ∧ (∀ x, o = .threw x → (False))
def rm_Mo_save : Room := { frames := 7, cells := 0, slots := 0, locals := 153 }
set_option maxHeartbeats 4000000 in
set_option maxRecDepth 100000 in
theorem c_Mo_save (l : Launch) (hfl : l.flags = pinnedFlags ++ [noTraceFlag]) (dC : Nat → ClassId) (dI : Nat → Nat → Nat) (cI cJ : ClassId) (a : Nat → Nat) (sz : Nat) (th tr dp zi co sh lt ts : Int) (mf : Nat → Int32) (hok : okM th tr dp zi co sh lt ts mf) : tz_Met l ⟨"StoryMachineModel", "save", "()V"⟩ tw_tbl rm_Mo_save (tzP (dC, dI) vcl cI cJ (gsM a th tr dp zi co sh lt ts mf) a (adM a) [.ref (a 0)] sz) (tq_Q (q_Mo_save dC dI cI cJ a th tr dp zi co sh lt ts mf) (ga (adM a) sz)) 0 0 0 0 (ga (adM a) sz) := by
  refine tz_ofW (cc := prog_13_method_57_code) (maxL := 1) (ret := none) (by decide) (tx_isM mw_1425) ?_
  intro p e s m args below meth c s₁ B hml hv
  obtain ⟨rfl, hsz, hI0, hK, hst0⟩ := hv
  have hx := B.exec
  have hb := B.bytes
  have hr := B.returns
  have hts := atoms_spec (ws := tw_tbl) B.pre
  have hown : s.vm.findClass "StoryMachineModel" = some m.cls := findClass_of_methodNamed B.named
  have hlocks := B.notSynchronized
  subst hsz
  have hst := fun (H : Heap) (locs : List Loc) (hS : va_S (ga (adM a) s.heap.size) s.heap H locs) (U : State) (hU : U.heap = H) (hW : s.WarmedH U.vm) => zS_all adM_map hI0 hst0 hS hU hW
  have hAC : ∀ q ∈ adM a, ga (adM a) s.heap.size q := fun q h => Or.inl h
  have hA0 : ∀ q, s.heap.size ≤ q → ga (adM a) s.heap.size q := fun q h => Or.inr h
  have hI : sI (dC, dI) vcl cI cJ (gsM a th tr dp zi co sh lt ts mf) (ga (adM a) s.heap.size) s.heap s.heap [] := ⟨hI0, va_S.rf⟩
  clear hI0 hst0
  have hl := lv_entry ([.ref (a 0)]) (n := 1) (Nat.le_of_ble_eq_true rfl)
  rw [lg_entry_eq]
  generalize (lg_sl ([.ref (a 0)]) ++ List.replicate (1 - (lg_sl ([.ref (a 0)])).length) Slot.unset).toArray = ls at hl ⊢
  have hl : lv_has ls 1 [(0, .ref (a 0))] := hl
  generalize hZ : tz_MQ below (tq_Q (q_Mo_save dC dI cI cJ a th tr dp zi co sh lt ts mf) (ga (adM a) s.heap.size)) ([.ref (a 0)] : List Value).toArray s 0 0 0 0 (ga (adM a) s.heap.size) = Z
  obtain ⟨A, hAe⟩ : ∃ A, A = ga (adM a) s.heap.size := ⟨_, rfl⟩
  rw [← hAe] at hst hAC hA0 hI hZ
  refine sv_start hI (fun H locs hI => ?_)
  obtain ⟨⟨o1, o2⟩, ⟨o3, o4⟩, ⟨o5, o6⟩, ⟨o7, o8⟩, ⟨o9, o10⟩, ⟨o11, o12⟩, ⟨o13, o14⟩, ⟨o15, o16⟩, -⟩ := id hok
  refine lv_aload_n hx hb d_Mo_save_0 rfl (lv_at hl 0 rfl) ?_
  refine sn_iconst hx hb d_Mo_save_1 (by decide) (fun z17 hz17 => ?_)
  refine sv_put (C := "StoryMachineModel") (T := T_Mo) (N := 51) (ty := .boolean) hx hb hts in_Mo t_Mo tk_Mo nm_Mo hown hK (sh_in adM_map hAC) hI 0 kM_0 rfl 10 (by decide) (hts _ mw_1073) rfl (by decide +kernel) (sn_bool (by omega) (by omega)).1 (sn_bool (by omega) (by omega)).2 (Nat.le_of_ble_eq_true rfl) (by omega) (by omega) pM_0_10 d_Mo_save_2 (fun H locs hI => ?_)
  refine lv_aload_n hx hb d_Mo_save_5 rfl (lv_at hl 0 rfl) ?_
  refine sv_getr (C := "StoryMachineModel") (T := T_Mo) (N := 51) hx hb hts in_Mo hown hK hI 0 kM_0 rfl 1 (by decide) (hts _ mw_1064) rfl d_Mo_save_6 ?_
  refine lv_aload_n hx hb d_Mo_save_9 rfl (lv_at hl 0 rfl) ?_
  refine sv_getr (C := "StoryMachineModel") (T := T_Mo) (N := 51) hx hb hts in_Mo hown hK hI 0 kM_0 rfl 11 (by decide) (hts _ mw_1074) rfl d_Mo_save_10 ?_
  refine sn_sipush hx hb d_Mo_save_13 (by decide) (fun z18 hz18 => ?_)
  refine tz_call (A1 := ga (adM a) H.size) (tz_runS (As := [.ref (a 1), .ref (a 8), .int z18]) (rest := []) ⟨hx, hb, hml, hown, hts⟩ (c_Mo_copy_1_8 l hfl dC dI cI cJ a H.size th tr dp zi co sh lt ts mf z18 hok (by omega) (by omega)) (tx_cb (n := 3) hts rfl rfl ⟨Nat.le_of_ble_eq_true rfl, Nat.le_of_ble_eq_true rfl⟩ (tx_code.of (hts _ mw_1428)) (hts _ mw_12) (by decide +kernel) (hts _ mw_1426)) (hts _ mw_1427) ⟨tz_blind, fun U hU hW => ⟨rfl, by rw [hU], by rw [hU]; exact hI.1, va_K.moved hW.alike hK, hst _ _ hI.2 U hU hW⟩⟩ rfl rfl hl.1 rfl (lv_room (Nat.le_of_ble_eq_true rfl)) d_Mo_save_16 ⟨Nat.le_of_ble_eq_true rfl, Nat.le_of_ble_eq_true rfl⟩) hI.2 (fun q _ h => ga_sub hAC hA0 hI.2 q h) (ga_sub hAC hA0 hI.2) (fun v t H1 locs1 ht hWt hpost _ _ hS => ?_) (fun x t H1 locs1 ht hWt hpost _ _ hS => (hpost.2 x rfl).elim)
  rcases hpost.1 _ rfl with ⟨hv, c19, hI1⟩
  cases hv
  have hI : sI (dC, dI) vcl cI cJ (gsM a th tr dp zi co sh lt ts mf) A s.heap H1 locs1 := ⟨by rw [← ht]; exact hI1, hS⟩
  clear hpost hI1 hS ht hWt
  revert hI; generalize H1 = H; generalize locs1 = locs; intro hI
  refine lv_aload_n hx hb d_Mo_save_19 rfl (lv_at hl 0 rfl) ?_
  refine sv_getr (C := "StoryMachineModel") (T := T_Mo) (N := 51) hx hb hts in_Mo hown hK hI 0 kM_0 rfl 3 (by decide) (hts _ mw_1066) rfl d_Mo_save_20 ?_
  refine lv_aload_n hx hb d_Mo_save_23 rfl (lv_at hl 0 rfl) ?_
  refine sv_getr (C := "StoryMachineModel") (T := T_Mo) (N := 51) hx hb hts in_Mo hown hK hI 0 kM_0 rfl 13 (by decide) (hts _ mw_1076) rfl d_Mo_save_24 ?_
  refine sn_bipush hx hb d_Mo_save_27 (by decide) (fun z20 hz20 => ?_)
  refine tz_call (A1 := ga (adM a) H.size) (tz_runS (As := [.ref (a 2), .ref (a 9), .int z20]) (rest := []) ⟨hx, hb, hml, hown, hts⟩ (c_Mo_copy_2_9 l hfl dC dI cI cJ a H.size th tr dp zi co sh lt ts mf z20 c19 (by omega) (by omega)) (tx_cb (n := 3) hts rfl rfl ⟨Nat.le_of_ble_eq_true rfl, Nat.le_of_ble_eq_true rfl⟩ (tx_code.of (hts _ mw_1428)) (hts _ mw_12) (by decide +kernel) (hts _ mw_1426)) (hts _ mw_1427) ⟨tz_blind, fun U hU hW => ⟨rfl, by rw [hU], by rw [hU]; exact hI.1, va_K.moved hW.alike hK, hst _ _ hI.2 U hU hW⟩⟩ rfl rfl hl.1 rfl (lv_room (Nat.le_of_ble_eq_true rfl)) d_Mo_save_29 ⟨Nat.le_of_ble_eq_true rfl, Nat.le_of_ble_eq_true rfl⟩) hI.2 (fun q _ h => ga_sub hAC hA0 hI.2 q h) (ga_sub hAC hA0 hI.2) (fun v t H1 locs1 ht hWt hpost _ _ hS => ?_) (fun x t H1 locs1 ht hWt hpost _ _ hS => (hpost.2 x rfl).elim)
  rcases hpost.1 _ rfl with ⟨hv, c21, hI1⟩
  cases hv
  have hI : sI (dC, dI) vcl cI cJ (gsM a th tr dp zi co sh lt ts mf) A s.heap H1 locs1 := ⟨by rw [← ht]; exact hI1, hS⟩
  clear hpost hI1 hS ht hWt
  revert hI; generalize H1 = H; generalize locs1 = locs; intro hI
  refine lv_aload_n hx hb d_Mo_save_32 rfl (lv_at hl 0 rfl) ?_
  refine sv_getr (C := "StoryMachineModel") (T := T_Mo) (N := 51) hx hb hts in_Mo hown hK hI 0 kM_0 rfl 5 (by decide) (hts _ mw_1068) rfl d_Mo_save_33 ?_
  refine lv_aload_n hx hb d_Mo_save_36 rfl (lv_at hl 0 rfl) ?_
  refine sv_getr (C := "StoryMachineModel") (T := T_Mo) (N := 51) hx hb hts in_Mo hown hK hI 0 kM_0 rfl 15 (by decide) (hts _ mw_1078) rfl d_Mo_save_37 ?_
  refine sn_bipush hx hb d_Mo_save_40 (by decide) (fun z22 hz22 => ?_)
  refine tz_call (A1 := ga (adM a) H.size) (tz_runS (As := [.ref (a 3), .ref (a 10), .int z22]) (rest := []) ⟨hx, hb, hml, hown, hts⟩ (c_Mo_copy_3_10 l hfl dC dI cI cJ a H.size th tr dp zi co sh lt ts mf z22 c21 (by omega) (by omega)) (tx_cb (n := 3) hts rfl rfl ⟨Nat.le_of_ble_eq_true rfl, Nat.le_of_ble_eq_true rfl⟩ (tx_code.of (hts _ mw_1428)) (hts _ mw_12) (by decide +kernel) (hts _ mw_1426)) (hts _ mw_1427) ⟨tz_blind, fun U hU hW => ⟨rfl, by rw [hU], by rw [hU]; exact hI.1, va_K.moved hW.alike hK, hst _ _ hI.2 U hU hW⟩⟩ rfl rfl hl.1 rfl (lv_room (Nat.le_of_ble_eq_true rfl)) d_Mo_save_42 ⟨Nat.le_of_ble_eq_true rfl, Nat.le_of_ble_eq_true rfl⟩) hI.2 (fun q _ h => ga_sub hAC hA0 hI.2 q h) (ga_sub hAC hA0 hI.2) (fun v t H1 locs1 ht hWt hpost _ _ hS => ?_) (fun x t H1 locs1 ht hWt hpost _ _ hS => (hpost.2 x rfl).elim)
  rcases hpost.1 _ rfl with ⟨hv, c23, hI1⟩
  cases hv
  have hI : sI (dC, dI) vcl cI cJ (gsM a th tr dp zi co sh lt ts mf) A s.heap H1 locs1 := ⟨by rw [← ht]; exact hI1, hS⟩
  clear hpost hI1 hS ht hWt
  revert hI; generalize H1 = H; generalize locs1 = locs; intro hI
  refine lv_aload_n hx hb d_Mo_save_45 rfl (lv_at hl 0 rfl) ?_
  refine sv_getr (C := "StoryMachineModel") (T := T_Mo) (N := 51) hx hb hts in_Mo hown hK hI 0 kM_0 rfl 6 (by decide) (hts _ mw_1069) rfl d_Mo_save_46 ?_
  refine lv_aload_n hx hb d_Mo_save_49 rfl (lv_at hl 0 rfl) ?_
  refine sv_getr (C := "StoryMachineModel") (T := T_Mo) (N := 51) hx hb hts in_Mo hown hK hI 0 kM_0 rfl 16 (by decide) (hts _ mw_1079) rfl d_Mo_save_50 ?_
  refine sn_bipush hx hb d_Mo_save_53 (by decide) (fun z24 hz24 => ?_)
  refine tz_call (A1 := ga (adM a) H.size) (tz_runS (As := [.ref (a 4), .ref (a 11), .int z24]) (rest := []) ⟨hx, hb, hml, hown, hts⟩ (c_Mo_copy_4_11 l hfl dC dI cI cJ a H.size th tr dp zi co sh lt ts mf z24 c23 (by omega) (by omega)) (tx_cb (n := 3) hts rfl rfl ⟨Nat.le_of_ble_eq_true rfl, Nat.le_of_ble_eq_true rfl⟩ (tx_code.of (hts _ mw_1428)) (hts _ mw_12) (by decide +kernel) (hts _ mw_1426)) (hts _ mw_1427) ⟨tz_blind, fun U hU hW => ⟨rfl, by rw [hU], by rw [hU]; exact hI.1, va_K.moved hW.alike hK, hst _ _ hI.2 U hU hW⟩⟩ rfl rfl hl.1 rfl (lv_room (Nat.le_of_ble_eq_true rfl)) d_Mo_save_55 ⟨Nat.le_of_ble_eq_true rfl, Nat.le_of_ble_eq_true rfl⟩) hI.2 (fun q _ h => ga_sub hAC hA0 hI.2 q h) (ga_sub hAC hA0 hI.2) (fun v t H1 locs1 ht hWt hpost _ _ hS => ?_) (fun x t H1 locs1 ht hWt hpost _ _ hS => (hpost.2 x rfl).elim)
  rcases hpost.1 _ rfl with ⟨hv, c25, hI1⟩
  cases hv
  have hI : sI (dC, dI) vcl cI cJ (gsM a th tr dp zi co sh lt ts mf) A s.heap H1 locs1 := ⟨by rw [← ht]; exact hI1, hS⟩
  clear hpost hI1 hS ht hWt
  revert hI; generalize H1 = H; generalize locs1 = locs; intro hI
  refine lv_aload_n hx hb d_Mo_save_58 rfl (lv_at hl 0 rfl) ?_
  refine sv_getr (C := "StoryMachineModel") (T := T_Mo) (N := 51) hx hb hts in_Mo hown hK hI 0 kM_0 rfl 7 (by decide) (hts _ mw_1070) rfl d_Mo_save_59 ?_
  refine lv_aload_n hx hb d_Mo_save_62 rfl (lv_at hl 0 rfl) ?_
  refine sv_getr (C := "StoryMachineModel") (T := T_Mo) (N := 51) hx hb hts in_Mo hown hK hI 0 kM_0 rfl 17 (by decide) (hts _ mw_1080) rfl d_Mo_save_63 ?_
  refine sn_bipush hx hb d_Mo_save_66 (by decide) (fun z26 hz26 => ?_)
  refine tz_call (A1 := ga (adM a) H.size) (tz_runS (As := [.ref (a 5), .ref (a 12), .int z26]) (rest := []) ⟨hx, hb, hml, hown, hts⟩ (c_Mo_copy_5_12 l hfl dC dI cI cJ a H.size th tr dp zi co sh lt ts mf z26 c25 (by omega) (by omega)) (tx_cb (n := 3) hts rfl rfl ⟨Nat.le_of_ble_eq_true rfl, Nat.le_of_ble_eq_true rfl⟩ (tx_code.of (hts _ mw_1428)) (hts _ mw_12) (by decide +kernel) (hts _ mw_1426)) (hts _ mw_1427) ⟨tz_blind, fun U hU hW => ⟨rfl, by rw [hU], by rw [hU]; exact hI.1, va_K.moved hW.alike hK, hst _ _ hI.2 U hU hW⟩⟩ rfl rfl hl.1 rfl (lv_room (Nat.le_of_ble_eq_true rfl)) d_Mo_save_68 ⟨Nat.le_of_ble_eq_true rfl, Nat.le_of_ble_eq_true rfl⟩) hI.2 (fun q _ h => ga_sub hAC hA0 hI.2 q h) (ga_sub hAC hA0 hI.2) (fun v t H1 locs1 ht hWt hpost _ _ hS => ?_) (fun x t H1 locs1 ht hWt hpost _ _ hS => (hpost.2 x rfl).elim)
  rcases hpost.1 _ rfl with ⟨hv, c27, hI1⟩
  cases hv
  have hI : sI (dC, dI) vcl cI cJ (gsM a th tr dp zi co sh lt ts mf) A s.heap H1 locs1 := ⟨by rw [← ht]; exact hI1, hS⟩
  clear hpost hI1 hS ht hWt
  revert hI; generalize H1 = H; generalize locs1 = locs; intro hI
  refine lv_aload_n hx hb d_Mo_save_71 rfl (lv_at hl 0 rfl) ?_
  refine sv_getr (C := "StoryMachineModel") (T := T_Mo) (N := 51) hx hb hts in_Mo hown hK hI 0 kM_0 rfl 8 (by decide) (hts _ mw_1071) rfl d_Mo_save_72 ?_
  refine lv_aload_n hx hb d_Mo_save_75 rfl (lv_at hl 0 rfl) ?_
  refine sv_getr (C := "StoryMachineModel") (T := T_Mo) (N := 51) hx hb hts in_Mo hown hK hI 0 kM_0 rfl 18 (by decide) (hts _ mw_1081) rfl d_Mo_save_76 ?_
  refine sn_bipush hx hb d_Mo_save_79 (by decide) (fun z28 hz28 => ?_)
  refine tz_call (A1 := ga (adM a) H.size) (tz_runS (As := [.ref (a 6), .ref (a 13), .int z28]) (rest := []) ⟨hx, hb, hml, hown, hts⟩ (c_Mo_copy_6_13 l hfl dC dI cI cJ a H.size th tr dp zi co sh lt ts mf z28 c27 (by omega) (by omega)) (tx_cb (n := 3) hts rfl rfl ⟨Nat.le_of_ble_eq_true rfl, Nat.le_of_ble_eq_true rfl⟩ (tx_code.of (hts _ mw_1428)) (hts _ mw_12) (by decide +kernel) (hts _ mw_1426)) (hts _ mw_1427) ⟨tz_blind, fun U hU hW => ⟨rfl, by rw [hU], by rw [hU]; exact hI.1, va_K.moved hW.alike hK, hst _ _ hI.2 U hU hW⟩⟩ rfl rfl hl.1 rfl (lv_room (Nat.le_of_ble_eq_true rfl)) d_Mo_save_81 ⟨Nat.le_of_ble_eq_true rfl, Nat.le_of_ble_eq_true rfl⟩) hI.2 (fun q _ h => ga_sub hAC hA0 hI.2 q h) (ga_sub hAC hA0 hI.2) (fun v t H1 locs1 ht hWt hpost _ _ hS => ?_) (fun x t H1 locs1 ht hWt hpost _ _ hS => (hpost.2 x rfl).elim)
  rcases hpost.1 _ rfl with ⟨hv, c29, hI1⟩
  cases hv
  have hI : sI (dC, dI) vcl cI cJ (gsM a th tr dp zi co sh lt ts mf) A s.heap H1 locs1 := ⟨by rw [← ht]; exact hI1, hS⟩
  clear hpost hI1 hS ht hWt
  revert hI; generalize H1 = H; generalize locs1 = locs; intro hI
  refine lv_aload_n hx hb d_Mo_save_84 rfl (lv_at hl 0 rfl) ?_
  refine sv_getr (C := "StoryMachineModel") (T := T_Mo) (N := 51) hx hb hts in_Mo hown hK hI 0 kM_0 rfl 9 (by decide) (hts _ mw_1072) rfl d_Mo_save_85 ?_
  refine lv_aload_n hx hb d_Mo_save_88 rfl (lv_at hl 0 rfl) ?_
  refine sv_getr (C := "StoryMachineModel") (T := T_Mo) (N := 51) hx hb hts in_Mo hown hK hI 0 kM_0 rfl 19 (by decide) (hts _ mw_1082) rfl d_Mo_save_89 ?_
  refine sn_sipush hx hb d_Mo_save_92 (by decide) (fun z30 hz30 => ?_)
  refine tz_call (A1 := ga (adM a) H.size) (tz_runS (As := [.ref (a 7), .ref (a 14), .int z30]) (rest := []) ⟨hx, hb, hml, hown, hts⟩ (c_Mo_copy_7_14 l hfl dC dI cI cJ a H.size th tr dp zi co sh lt ts mf z30 c29 (by omega) (by omega)) (tx_cb (n := 3) hts rfl rfl ⟨Nat.le_of_ble_eq_true rfl, Nat.le_of_ble_eq_true rfl⟩ (tx_code.of (hts _ mw_1428)) (hts _ mw_12) (by decide +kernel) (hts _ mw_1426)) (hts _ mw_1427) ⟨tz_blind, fun U hU hW => ⟨rfl, by rw [hU], by rw [hU]; exact hI.1, va_K.moved hW.alike hK, hst _ _ hI.2 U hU hW⟩⟩ rfl rfl hl.1 rfl (lv_room (Nat.le_of_ble_eq_true rfl)) d_Mo_save_95 ⟨Nat.le_of_ble_eq_true rfl, Nat.le_of_ble_eq_true rfl⟩) hI.2 (fun q _ h => ga_sub hAC hA0 hI.2 q h) (ga_sub hAC hA0 hI.2) (fun v t H1 locs1 ht hWt hpost _ _ hS => ?_) (fun x t H1 locs1 ht hWt hpost _ _ hS => (hpost.2 x rfl).elim)
  rcases hpost.1 _ rfl with ⟨hv, c31, hI1⟩
  cases hv
  have hI : sI (dC, dI) vcl cI cJ (gsM a th tr dp zi co sh lt ts mf) A s.heap H1 locs1 := ⟨by rw [← ht]; exact hI1, hS⟩
  clear hpost hI1 hS ht hWt
  revert hI; generalize H1 = H; generalize locs1 = locs; intro hI
  refine lv_aload_n hx hb d_Mo_save_98 rfl (lv_at hl 0 rfl) ?_
  refine lv_aload_n hx hb d_Mo_save_99 rfl (lv_at hl 0 rfl) ?_
  refine sv_gete (C := "StoryMachineModel") (T := T_Mo) (N := 51) hx hb hts in_Mo hown hK hI 0 kM_0 rfl 2 (by decide) (hts _ mw_1065) rfl d_Mo_save_100 (fun z32 hz32 => ?_)
  refine sv_put (C := "StoryMachineModel") (T := T_Mo) (N := 51) (ty := .int) hx hb hts in_Mo t_Mo tk_Mo nm_Mo hown hK (sh_in adM_map hAC) hI 0 kM_0 rfl 12 (by decide) (hts _ mw_1075) rfl (by decide +kernel) rfl rfl (Nat.le_of_ble_eq_true rfl) (by omega) (by omega) pM_0_12 d_Mo_save_103 (fun H locs hI => ?_)
  refine lv_aload_n hx hb d_Mo_save_106 rfl (lv_at hl 0 rfl) ?_
  refine lv_aload_n hx hb d_Mo_save_107 rfl (lv_at hl 0 rfl) ?_
  refine sv_gete (C := "StoryMachineModel") (T := T_Mo) (N := 51) hx hb hts in_Mo hown hK hI 0 kM_0 rfl 4 (by decide) (hts _ mw_1067) rfl d_Mo_save_108 (fun z33 hz33 => ?_)
  refine sv_put (C := "StoryMachineModel") (T := T_Mo) (N := 51) (ty := .int) hx hb hts in_Mo t_Mo tk_Mo nm_Mo hown hK (sh_in adM_map hAC) hI 0 kM_0 rfl 14 (by decide) (hts _ mw_1077) rfl (by decide +kernel) rfl rfl (Nat.le_of_ble_eq_true rfl) (by omega) (by omega) pM_0_14 d_Mo_save_111 (fun H locs hI => ?_)
  refine lv_aload_n hx hb d_Mo_save_114 rfl (lv_at hl 0 rfl) ?_
  refine lv_aload_n hx hb d_Mo_save_115 rfl (lv_at hl 0 rfl) ?_
  refine sv_get (C := "StoryMachineModel") (T := T_Mo) (N := 51) hx hb hts in_Mo hown hK hI 0 kM_0 rfl 43 (by decide) (hts _ mw_1106) rfl d_Mo_save_116 (fun z34 hz34a hz34b => ?_)
  refine sv_put (C := "StoryMachineModel") (T := T_Mo) (N := 51) (ty := .int) hx hb hts in_Mo t_Mo tk_Mo nm_Mo hown hK (sh_in adM_map hAC) hI 0 kM_0 rfl 20 (by decide) (hts _ mw_1083) rfl (by decide +kernel) rfl rfl (Nat.le_of_ble_eq_true rfl) (by omega) (by omega) pM_0_20 d_Mo_save_119 (fun H locs hI => ?_)
  refine lv_aload_n hx hb d_Mo_save_122 rfl (lv_at hl 0 rfl) ?_
  refine lv_aload_n hx hb d_Mo_save_123 rfl (lv_at hl 0 rfl) ?_
  refine sv_get (C := "StoryMachineModel") (T := T_Mo) (N := 51) hx hb hts in_Mo hown hK hI 0 kM_0 rfl 41 (by decide) (hts _ mw_1104) rfl d_Mo_save_124 (fun z35 hz35a hz35b => ?_)
  refine sv_put (C := "StoryMachineModel") (T := T_Mo) (N := 51) (ty := .boolean) hx hb hts in_Mo t_Mo tk_Mo nm_Mo hown hK (sh_in adM_map hAC) hI 0 kM_0 rfl 21 (by decide) (hts _ mw_1084) rfl (by decide +kernel) (sn_bool (by omega) (by omega)).1 (sn_bool (by omega) (by omega)).2 (Nat.le_of_ble_eq_true rfl) (by omega) (by omega) pM_0_21 d_Mo_save_127 (fun H locs hI => ?_)
  refine lv_aload_n hx hb d_Mo_save_130 rfl (lv_at hl 0 rfl) ?_
  refine lv_aload_n hx hb d_Mo_save_131 rfl (lv_at hl 0 rfl) ?_
  refine sv_get (C := "StoryMachineModel") (T := T_Mo) (N := 51) hx hb hts in_Mo hown hK hI 0 kM_0 rfl 42 (by decide) (hts _ mw_1105) rfl d_Mo_save_132 (fun z36 hz36a hz36b => ?_)
  refine sv_put (C := "StoryMachineModel") (T := T_Mo) (N := 51) (ty := .int) hx hb hts in_Mo t_Mo tk_Mo nm_Mo hown hK (sh_in adM_map hAC) hI 0 kM_0 rfl 22 (by decide) (hts _ mw_1085) rfl (by decide +kernel) rfl rfl (Nat.le_of_ble_eq_true rfl) (by omega) (by omega) pM_0_22 d_Mo_save_135 (fun H locs hI => ?_)
  refine lv_aload_n hx hb d_Mo_save_138 rfl (lv_at hl 0 rfl) ?_
  refine sn_iconst hx hb d_Mo_save_139 (by decide) (fun z37 hz37 => ?_)
  refine tz_call (A1 := ga (adM a) H.size) (tz_runV (C := "StoryMachineModel") (As := [.int z37]) (rest := []) ⟨hx, hb, hml, hown, hts⟩ (c_Mo_branch l hfl dC dI cI cJ a H.size th tr dp zi co sh lt ts mf z37 c31 (by omega) (by omega)) (tx_cb (n := 1) hts rfl rfl ⟨Nat.le_of_ble_eq_true rfl, Nat.le_of_ble_eq_true rfl⟩ (tx_code.of (hts _ mw_1288)) (hts _ mw_12) (by decide +kernel) (hts _ mw_1285)) (hts _ mw_1287) (hts _ ms_Mo_branch) ⟨tz_blind, sv_recv (q0 := 0) hts in_Mo hK hI kM_0 rfl, fun U hU hW => ⟨rfl, by rw [hU], by rw [hU]; exact hI.1, va_K.moved hW.alike hK, hst _ _ hI.2 U hU hW⟩⟩ rfl rfl hl.1 rfl (lv_room (Nat.le_of_ble_eq_true rfl)) d_Mo_save_140 ⟨Nat.le_of_ble_eq_true rfl, Nat.le_of_ble_eq_true rfl⟩) hI.2 (fun q _ h => ga_sub hAC hA0 hI.2 q h) (ga_sub hAC hA0 hI.2) (fun v t H1 locs1 ht hWt hpost _ _ hS => ?_) (fun x t H1 locs1 ht hWt hpost _ _ hS => (hpost.2 x rfl).elim)
  rcases hpost.1 _ rfl with ⟨t_tr38, t_dp39, t_zi40, hv, c41, c41_0, hI1⟩ | ⟨t_dp42, t_zi43, f_mf44, hv, c45, c45_0, hI1⟩
  · cases hv
    have hI : sI (dC, dI) vcl cI cJ (gsM a th t_tr38 t_dp39 t_zi40 co sh lt ts mf) A s.heap H1 locs1 := ⟨by rw [← ht]; exact hI1, hS⟩
    obtain ⟨-, ⟨o46, o47⟩, ⟨o48, o49⟩, ⟨o50, o51⟩, -, -, -, -, -⟩ := id c41
    clear hpost hI1 hS ht hWt
    revert hI; generalize H1 = H; generalize locs1 = locs; intro hI
    subst hZ
    exact tz_ret (W.vret hx hb hr (fun t ht hW => ⟨⟨fun v9 hv9 => by cases hv9; exact (Or.inl ⟨t_tr38, t_dp39, t_zi40, rfl, c41, by omega, by rw [ht]; exact hI.1⟩), fun x9 hx9 => (by cases hx9)⟩, hI.2.F ht⟩) hI.2.2.2 d_Mo_save_143)
  · cases hv
    have hI : sI (dC, dI) vcl cI cJ (gsM a th tr t_dp42 t_zi43 co sh lt ts f_mf44) A s.heap H1 locs1 := ⟨by rw [← ht]; exact hI1, hS⟩
    obtain ⟨-, -, ⟨o52, o53⟩, ⟨o54, o55⟩, -, -, -, -, -⟩ := id c45
    clear hpost hI1 hS ht hWt
    revert hI; generalize H1 = H; generalize locs1 = locs; intro hI
    subst hZ
    exact tz_ret (W.vret hx hb hr (fun t ht hW => ⟨⟨fun v9 hv9 => by cases hv9; exact (Or.inr (⟨t_dp42, t_zi43, f_mf44, rfl, c45, by omega, by rw [ht]; exact hI.1⟩)), fun x9 hx9 => (by cases hx9)⟩, hI.2.F ht⟩) hI.2.2.2 d_Mo_save_143)
abbrev q_Mo_letter (dC : Nat → ClassId) (dI : Nat → Nat → Nat) (cI cJ : ClassId) (a : Nat → Nat) (th tr dp zi co sh lt ts : Int) (mf : Nat → Int32) (x1 : Int32) : Outcome → State → Prop := fun o t => (∀ v, o = .returned v → ((v = none ∧ okM th tr dp zi co sh lt ts mf ∧ (1 ≤ tr) ∧ sh_I (dC, dI) vcl cI cJ (gsM a th tr dp zi co sh lt ts mf) t.heap) ∨ (v = none ∧ okM th tr dp zi co sh lt ts mf ∧ sh_I (dC, dI) vcl cI cJ (gsM a th tr dp zi co sh lt ts mf) t.heap) ∨ (∃ (sh_ : Int), v = none ∧ okM th tr dp zi co sh_ lt ts mf ∧ (tr ≤ 0) ∧ (1 ≤ sh_) ∧ (sh_ ≤ sh + 2) ∧ sh_I (dC, dI) vcl cI cJ (gsM a th tr dp zi co sh_ lt ts mf) t.heap))) ∧ (∀ x, o = .threw x → (False))
def rm_Mo_letter : Room := { frames := 1, cells := 0, slots := 0, locals := 21 }
set_option maxHeartbeats 4000000 in
set_option maxRecDepth 100000 in
theorem c_Mo_letter (l : Launch) (hfl : l.flags = pinnedFlags ++ [noTraceFlag]) (dC : Nat → ClassId) (dI : Nat → Nat → Nat) (cI cJ : ClassId) (a : Nat → Nat) (sz : Nat) (th tr dp zi co sh lt ts : Int) (mf : Nat → Int32) (x1 : Int32) (hok : okM th tr dp zi co sh lt ts mf) (hp0 : 0 ≤ x1.toInt) (hp1 : x1.toInt ≤ 31) (hp2 : sh ≤ 1999999998) : tz_Met l ⟨"StoryMachineModel", "letter", "(I)V"⟩ tw_tbl rm_Mo_letter (tzP (dC, dI) vcl cI cJ (gsM a th tr dp zi co sh lt ts mf) a (adM a) [.ref (a 0), .int x1] sz) (tq_Q (q_Mo_letter dC dI cI cJ a th tr dp zi co sh lt ts mf x1) (ga (adM a) sz)) 0 0 0 0 (ga (adM a) sz) := by
  refine tz_ofW (cc := prog_13_method_19_code) (maxL := 3) (ret := none) (by decide) (tx_isM mw_1406) ?_
  intro p e s m args below meth c s₁ B hml hv
  obtain ⟨rfl, hsz, hI0, hK, hst0⟩ := hv
  have hx := B.exec
  have hb := B.bytes
  have hr := B.returns
  have hts := atoms_spec (ws := tw_tbl) B.pre
  have hown : s.vm.findClass "StoryMachineModel" = some m.cls := findClass_of_methodNamed B.named
  have hlocks := B.notSynchronized
  subst hsz
  have hst := fun (H : Heap) (locs : List Loc) (hS : va_S (ga (adM a) s.heap.size) s.heap H locs) (U : State) (hU : U.heap = H) (hW : s.WarmedH U.vm) => zS_all adM_map hI0 hst0 hS hU hW
  have hAC : ∀ q ∈ adM a, ga (adM a) s.heap.size q := fun q h => Or.inl h
  have hA0 : ∀ q, s.heap.size ≤ q → ga (adM a) s.heap.size q := fun q h => Or.inr h
  have hI : sI (dC, dI) vcl cI cJ (gsM a th tr dp zi co sh lt ts mf) (ga (adM a) s.heap.size) s.heap s.heap [] := ⟨hI0, va_S.rf⟩
  clear hI0 hst0
  have hl := lv_entry ([.ref (a 0), .int x1]) (n := 3) (Nat.le_of_ble_eq_true rfl)
  rw [lg_entry_eq]
  generalize (lg_sl ([.ref (a 0), .int x1]) ++ List.replicate (3 - (lg_sl ([.ref (a 0), .int x1])).length) Slot.unset).toArray = ls at hl ⊢
  have hl : lv_has ls 3 [(0, .ref (a 0)), (1, .int x1)] := hl
  generalize hZ : tz_MQ below (tq_Q (q_Mo_letter dC dI cI cJ a th tr dp zi co sh lt ts mf x1) (ga (adM a) s.heap.size)) ([.ref (a 0), .int x1] : List Value).toArray s 0 0 0 0 (ga (adM a) s.heap.size) = Z
  obtain ⟨A, hAe⟩ : ∃ A, A = ga (adM a) s.heap.size := ⟨_, rfl⟩
  rw [← hAe] at hst hAC hA0 hI hZ
  refine sv_start hI (fun H locs hI => ?_)
  obtain ⟨⟨o1, o2⟩, ⟨o3, o4⟩, ⟨o5, o6⟩, ⟨o7, o8⟩, ⟨o9, o10⟩, ⟨o11, o12⟩, ⟨o13, o14⟩, ⟨o15, o16⟩, -⟩ := id hok
  have gx1 := sn_rng x1
  have j86u : ∀ (H : Heap) (locs : List Loc) (ls : Array Slot) (v86u_2 : Int32), sI (dC, dI) vcl cI cJ (gsM a th tr dp zi co sh lt ts mf) A s.heap H locs → okM th tr dp zi co sh lt ts mf → (-2147483648) ≤ v86u_2.toInt → v86u_2.toInt ≤ 2147483647 → 1 ≤ x1.toInt → sh ≤ sh + 2 → lv_has ls 3 [(0, .ref (a 0)), (1, .int x1), (2, .int v86u_2)] → W p l e (headSpec tw_tbl rm_Mo_letter).room s m ([.ref (a 0), .int x1] : List Value).toArray below meth c H locs 0 0 Z (F0 m 86 ls []) := by
    intro H locs ls v86u_2 hI hok g86_0 g86_1 g86_2 g86_3 hl
    obtain ⟨⟨o17, o18⟩, ⟨o19, o20⟩, ⟨o21, o22⟩, ⟨o23, o24⟩, ⟨o25, o26⟩, ⟨o27, o28⟩, ⟨o29, o30⟩, ⟨o31, o32⟩, -⟩ := id hok
    refine lv_iload_n hx hb d_Mo_letter_86 rfl (lv_at hl 1 rfl) ?_
    refine sn_bipush hx hb d_Mo_letter_87 (by decide) (fun z33 hz33 => ?_)
    refine sn_icmp_ge (tgt := 93) hx hb d_Mo_letter_89 (by decide) (fun b34 => ?_) (fun b34 => ?_)
    · refine lv_iload_n hx hb d_Mo_letter_93 rfl (lv_at hl 2 rfl) ?_
      refine sn_if_ne (tgt := 108) hx hb d_Mo_letter_94 (by decide) (fun b35 => ?_) (fun b35 => ?_)
      · refine lv_iload_n hx hb d_Mo_letter_108 rfl (lv_at hl 2 rfl) ?_
        refine sn_iconst hx hb d_Mo_letter_109 (by decide) (fun z36 hz36 => ?_)
        refine sn_icmp_ne (tgt := 124) hx hb d_Mo_letter_110 (by decide) (fun b37 => ?_) (fun b37 => ?_)
        · refine lv_iload_n hx hb d_Mo_letter_124 rfl (lv_at hl 1 rfl) ?_
          refine sn_bipush hx hb d_Mo_letter_125 (by decide) (fun z38 hz38 => ?_)
          refine sn_icmp_ne (tgt := 138) hx hb d_Mo_letter_127 (by decide) (fun b39 => ?_) (fun b39 => ?_)
          · refine lv_aload_n hx hb d_Mo_letter_138 rfl (lv_at hl 0 rfl) ?_
            refine lv_iload_n hx hb d_Mo_letter_139 rfl (lv_at hl 1 rfl) ?_
            refine sn_bipush hx hb d_Mo_letter_140 (by decide) (fun z40 hz40 => ?_)
            refine sn_icmp_ne (tgt := 150) hx hb d_Mo_letter_142 (by decide) (fun b41 => ?_) (fun b41 => ?_)
            · refine lv_iload_n hx hb d_Mo_letter_150 rfl (lv_at hl 1 rfl) ?_
              refine sn_bipush hx hb d_Mo_letter_151 (by decide) (fun z42 hz42 => ?_)
              refine sn_isub hx hb d_Mo_letter_153 (by omega) (by omega) (fun z43 hz43 => ?_)
              refine tz_call (A1 := ga (adM a) H.size) (tz_runS (As := [.int z43]) (rest := [.ref (a 0)]) ⟨hx, hb, hml, hown, hts⟩ (c_Mo_sign l hfl dC dI cI cJ a H.size th tr dp zi co sh lt ts mf z43 hok) (tx_cb (n := 1) hts rfl rfl ⟨Nat.le_of_ble_eq_true rfl, Nat.le_of_ble_eq_true rfl⟩ (tx_code.of (hts _ mw_1413)) (hts _ mw_12) (by decide +kernel) (hts _ mw_1411)) (hts _ mw_1412) ⟨tz_blind, fun U hU hW => ⟨rfl, by rw [hU], by rw [hU]; exact hI.1, va_K.moved hW.alike hK, hst _ _ hI.2 U hU hW⟩⟩ rfl rfl hl.1 rfl (lv_room (Nat.le_of_ble_eq_true rfl)) d_Mo_letter_154 ⟨Nat.le_of_ble_eq_true rfl, Nat.le_of_ble_eq_true rfl⟩) hI.2 (fun q _ h => ga_sub hAC hA0 hI.2 q h) (ga_sub hAC hA0 hI.2) (fun v t H1 locs1 ht hWt hpost _ _ hS => ?_) (fun x t H1 locs1 ht hWt hpost _ _ hS => (hpost.2 x rfl).elim)
              rcases hpost.1 _ rfl with ⟨z44, hv, c45, c45_0, c45_1, hI1⟩
              cases hv
              have hI : sI (dC, dI) vcl cI cJ (gsM a th tr dp zi co sh lt ts mf) A s.heap H1 locs1 := ⟨by rw [← ht]; exact hI1, hS⟩
              clear hpost hI1 hS ht hWt
              revert hI; generalize H1 = H; generalize locs1 = locs; intro hI
              refine tz_call (A1 := ga (adM a) H.size) (tz_runV (C := "StoryMachineModel") (As := [.int z44]) (rest := []) ⟨hx, hb, hml, hown, hts⟩ (c_Mo_show l hfl dC dI cI cJ a H.size th tr dp zi co sh lt ts mf z44 c45 (by omega)) (tx_cb (n := 1) hts rfl rfl ⟨Nat.le_of_ble_eq_true rfl, Nat.le_of_ble_eq_true rfl⟩ (tx_code.of (hts _ mw_1410)) (hts _ mw_12) (by decide +kernel) (hts _ mw_1407)) (hts _ mw_1409) (hts _ ms_Mo_show) ⟨tz_blind, sv_recv (q0 := 0) hts in_Mo hK hI kM_0 rfl, fun U hU hW => ⟨rfl, by rw [hU], by rw [hU]; exact hI.1, va_K.moved hW.alike hK, hst _ _ hI.2 U hU hW⟩⟩ rfl rfl hl.1 rfl (lv_room (Nat.le_of_ble_eq_true rfl)) d_Mo_letter_157 ⟨Nat.le_of_ble_eq_true rfl, Nat.le_of_ble_eq_true rfl⟩) hI.2 (fun q _ h => ga_sub hAC hA0 hI.2 q h) (ga_sub hAC hA0 hI.2) (fun v t H1 locs1 ht hWt hpost _ _ hS => ?_) (fun x t H1 locs1 ht hWt hpost _ _ hS => (hpost.2 x rfl).elim)
              rcases hpost.1 _ rfl with ⟨hv, c46, c46_0, hI1⟩ | ⟨t_sh47, hv, c48, c48_0, c48_1, c48_2, hI1⟩
              · cases hv
                have hI : sI (dC, dI) vcl cI cJ (gsM a th tr dp zi co sh lt ts mf) A s.heap H1 locs1 := ⟨by rw [← ht]; exact hI1, hS⟩
                clear hpost hI1 hS ht hWt
                revert hI; generalize H1 = H; generalize locs1 = locs; intro hI
                subst hZ
                exact tz_ret (W.vret hx hb hr (fun t ht hW => ⟨⟨fun v9 hv9 => by cases hv9; exact (Or.inl ⟨rfl, c46, by omega, by rw [ht]; exact hI.1⟩), fun x9 hx9 => (by cases hx9)⟩, hI.2.F ht⟩) hI.2.2.2 d_Mo_letter_160)
              · cases hv
                have hI : sI (dC, dI) vcl cI cJ (gsM a th tr dp zi co t_sh47 lt ts mf) A s.heap H1 locs1 := ⟨by rw [← ht]; exact hI1, hS⟩
                obtain ⟨-, -, -, -, -, ⟨o49, o50⟩, -, -, -⟩ := id c48
                clear hpost hI1 hS ht hWt
                revert hI; generalize H1 = H; generalize locs1 = locs; intro hI
                subst hZ
                exact tz_ret (W.vret hx hb hr (fun t ht hW => ⟨⟨fun v9 hv9 => by cases hv9; exact (Or.inr (Or.inr (⟨t_sh47, rfl, c48, by omega, by omega, by omega, by rw [ht]; exact hI.1⟩))), fun x9 hx9 => (by cases hx9)⟩, hI.2.F ht⟩) hI.2.2.2 d_Mo_letter_160)
            · refine sn_bipush hx hb d_Mo_letter_145 (by decide) (fun z51 hz51 => ?_)
              refine lv_goto (tgt := 157) hx hb d_Mo_letter_147 (by decide) ?_
              refine tz_call (A1 := ga (adM a) H.size) (tz_runV (C := "StoryMachineModel") (As := [.int z51]) (rest := []) ⟨hx, hb, hml, hown, hts⟩ (c_Mo_show l hfl dC dI cI cJ a H.size th tr dp zi co sh lt ts mf z51 hok (by omega)) (tx_cb (n := 1) hts rfl rfl ⟨Nat.le_of_ble_eq_true rfl, Nat.le_of_ble_eq_true rfl⟩ (tx_code.of (hts _ mw_1410)) (hts _ mw_12) (by decide +kernel) (hts _ mw_1407)) (hts _ mw_1409) (hts _ ms_Mo_show) ⟨tz_blind, sv_recv (q0 := 0) hts in_Mo hK hI kM_0 rfl, fun U hU hW => ⟨rfl, by rw [hU], by rw [hU]; exact hI.1, va_K.moved hW.alike hK, hst _ _ hI.2 U hU hW⟩⟩ rfl rfl hl.1 rfl (lv_room (Nat.le_of_ble_eq_true rfl)) d_Mo_letter_157 ⟨Nat.le_of_ble_eq_true rfl, Nat.le_of_ble_eq_true rfl⟩) hI.2 (fun q _ h => ga_sub hAC hA0 hI.2 q h) (ga_sub hAC hA0 hI.2) (fun v t H1 locs1 ht hWt hpost _ _ hS => ?_) (fun x t H1 locs1 ht hWt hpost _ _ hS => (hpost.2 x rfl).elim)
              rcases hpost.1 _ rfl with ⟨hv, c52, c52_0, hI1⟩ | ⟨t_sh53, hv, c54, c54_0, c54_1, c54_2, hI1⟩
              · cases hv
                have hI : sI (dC, dI) vcl cI cJ (gsM a th tr dp zi co sh lt ts mf) A s.heap H1 locs1 := ⟨by rw [← ht]; exact hI1, hS⟩
                clear hpost hI1 hS ht hWt
                revert hI; generalize H1 = H; generalize locs1 = locs; intro hI
                subst hZ
                exact tz_ret (W.vret hx hb hr (fun t ht hW => ⟨⟨fun v9 hv9 => by cases hv9; exact (Or.inl ⟨rfl, c52, by omega, by rw [ht]; exact hI.1⟩), fun x9 hx9 => (by cases hx9)⟩, hI.2.F ht⟩) hI.2.2.2 d_Mo_letter_160)
              · cases hv
                have hI : sI (dC, dI) vcl cI cJ (gsM a th tr dp zi co t_sh53 lt ts mf) A s.heap H1 locs1 := ⟨by rw [← ht]; exact hI1, hS⟩
                obtain ⟨-, -, -, -, -, ⟨o55, o56⟩, -, -, -⟩ := id c54
                clear hpost hI1 hS ht hWt
                revert hI; generalize H1 = H; generalize locs1 = locs; intro hI
                subst hZ
                exact tz_ret (W.vret hx hb hr (fun t ht hW => ⟨⟨fun v9 hv9 => by cases hv9; exact (Or.inr (Or.inr (⟨t_sh53, rfl, c54, by omega, by omega, by omega, by rw [ht]; exact hI.1⟩))), fun x9 hx9 => (by cases hx9)⟩, hI.2.F ht⟩) hI.2.2.2 d_Mo_letter_160)
          · refine lv_aload_n hx hb d_Mo_letter_130 rfl (lv_at hl 0 rfl) ?_
            refine sn_iconst hx hb d_Mo_letter_131 (by decide) (fun z57 hz57 => ?_)
            refine sv_put (C := "StoryMachineModel") (T := T_Mo) (N := 51) (ty := .int) hx hb hts in_Mo t_Mo tk_Mo nm_Mo hown hK (sh_in adM_map hAC) hI 0 kM_0 rfl 45 (by decide) (hts _ mw_1108) rfl (by decide +kernel) rfl rfl (Nat.le_of_ble_eq_true rfl) (by omega) (by omega) pM_0_45 d_Mo_letter_132 (fun H locs hI => ?_)
            refine lv_goto (tgt := 160) hx hb d_Mo_letter_135 (by decide) ?_
            subst hZ
            exact tz_ret (W.vret hx hb hr (fun t ht hW => ⟨⟨fun v9 hv9 => by cases hv9; exact (Or.inr (Or.inl ⟨rfl, hok, by rw [ht]; exact hI.1⟩)), fun x9 hx9 => (by cases hx9)⟩, hI.2.F ht⟩) hI.2.2.2 d_Mo_letter_160)
        · refine lv_aload_n hx hb d_Mo_letter_113 rfl (lv_at hl 0 rfl) ?_
          refine sn_bipush hx hb d_Mo_letter_114 (by decide) (fun z58 hz58 => ?_)
          refine lv_iload_n hx hb d_Mo_letter_116 rfl (lv_at hl 1 rfl) ?_
          refine sn_iadd hx hb d_Mo_letter_117 (by omega) (by omega) (fun z59 hz59 => ?_)
          refine tz_call (A1 := ga (adM a) H.size) (tz_runV (C := "StoryMachineModel") (As := [.int z59]) (rest := []) ⟨hx, hb, hml, hown, hts⟩ (c_Mo_show l hfl dC dI cI cJ a H.size th tr dp zi co sh lt ts mf z59 hok (by omega)) (tx_cb (n := 1) hts rfl rfl ⟨Nat.le_of_ble_eq_true rfl, Nat.le_of_ble_eq_true rfl⟩ (tx_code.of (hts _ mw_1410)) (hts _ mw_12) (by decide +kernel) (hts _ mw_1407)) (hts _ mw_1409) (hts _ ms_Mo_show) ⟨tz_blind, sv_recv (q0 := 0) hts in_Mo hK hI kM_0 rfl, fun U hU hW => ⟨rfl, by rw [hU], by rw [hU]; exact hI.1, va_K.moved hW.alike hK, hst _ _ hI.2 U hU hW⟩⟩ rfl rfl hl.1 rfl (lv_room (Nat.le_of_ble_eq_true rfl)) d_Mo_letter_118 ⟨Nat.le_of_ble_eq_true rfl, Nat.le_of_ble_eq_true rfl⟩) hI.2 (fun q _ h => ga_sub hAC hA0 hI.2 q h) (ga_sub hAC hA0 hI.2) (fun v t H1 locs1 ht hWt hpost _ _ hS => ?_) (fun x t H1 locs1 ht hWt hpost _ _ hS => (hpost.2 x rfl).elim)
          rcases hpost.1 _ rfl with ⟨hv, c60, c60_0, hI1⟩ | ⟨t_sh61, hv, c62, c62_0, c62_1, c62_2, hI1⟩
          · cases hv
            have hI : sI (dC, dI) vcl cI cJ (gsM a th tr dp zi co sh lt ts mf) A s.heap H1 locs1 := ⟨by rw [← ht]; exact hI1, hS⟩
            clear hpost hI1 hS ht hWt
            revert hI; generalize H1 = H; generalize locs1 = locs; intro hI
            refine lv_goto (tgt := 160) hx hb d_Mo_letter_121 (by decide) ?_
            subst hZ
            exact tz_ret (W.vret hx hb hr (fun t ht hW => ⟨⟨fun v9 hv9 => by cases hv9; exact (Or.inl ⟨rfl, c60, by omega, by rw [ht]; exact hI.1⟩), fun x9 hx9 => (by cases hx9)⟩, hI.2.F ht⟩) hI.2.2.2 d_Mo_letter_160)
          · cases hv
            have hI : sI (dC, dI) vcl cI cJ (gsM a th tr dp zi co t_sh61 lt ts mf) A s.heap H1 locs1 := ⟨by rw [← ht]; exact hI1, hS⟩
            obtain ⟨-, -, -, -, -, ⟨o63, o64⟩, -, -, -⟩ := id c62
            clear hpost hI1 hS ht hWt
            revert hI; generalize H1 = H; generalize locs1 = locs; intro hI
            refine lv_goto (tgt := 160) hx hb d_Mo_letter_121 (by decide) ?_
            subst hZ
            exact tz_ret (W.vret hx hb hr (fun t ht hW => ⟨⟨fun v9 hv9 => by cases hv9; exact (Or.inr (Or.inr (⟨t_sh61, rfl, c62, by omega, by omega, by omega, by rw [ht]; exact hI.1⟩))), fun x9 hx9 => (by cases hx9)⟩, hI.2.F ht⟩) hI.2.2.2 d_Mo_letter_160)
      · refine lv_aload_n hx hb d_Mo_letter_97 rfl (lv_at hl 0 rfl) ?_
        refine sn_bipush hx hb d_Mo_letter_98 (by decide) (fun z65 hz65 => ?_)
        refine lv_iload_n hx hb d_Mo_letter_100 rfl (lv_at hl 1 rfl) ?_
        refine sn_iadd hx hb d_Mo_letter_101 (by omega) (by omega) (fun z66 hz66 => ?_)
        refine tz_call (A1 := ga (adM a) H.size) (tz_runV (C := "StoryMachineModel") (As := [.int z66]) (rest := []) ⟨hx, hb, hml, hown, hts⟩ (c_Mo_show l hfl dC dI cI cJ a H.size th tr dp zi co sh lt ts mf z66 hok (by omega)) (tx_cb (n := 1) hts rfl rfl ⟨Nat.le_of_ble_eq_true rfl, Nat.le_of_ble_eq_true rfl⟩ (tx_code.of (hts _ mw_1410)) (hts _ mw_12) (by decide +kernel) (hts _ mw_1407)) (hts _ mw_1409) (hts _ ms_Mo_show) ⟨tz_blind, sv_recv (q0 := 0) hts in_Mo hK hI kM_0 rfl, fun U hU hW => ⟨rfl, by rw [hU], by rw [hU]; exact hI.1, va_K.moved hW.alike hK, hst _ _ hI.2 U hU hW⟩⟩ rfl rfl hl.1 rfl (lv_room (Nat.le_of_ble_eq_true rfl)) d_Mo_letter_102 ⟨Nat.le_of_ble_eq_true rfl, Nat.le_of_ble_eq_true rfl⟩) hI.2 (fun q _ h => ga_sub hAC hA0 hI.2 q h) (ga_sub hAC hA0 hI.2) (fun v t H1 locs1 ht hWt hpost _ _ hS => ?_) (fun x t H1 locs1 ht hWt hpost _ _ hS => (hpost.2 x rfl).elim)
        rcases hpost.1 _ rfl with ⟨hv, c67, c67_0, hI1⟩ | ⟨t_sh68, hv, c69, c69_0, c69_1, c69_2, hI1⟩
        · cases hv
          have hI : sI (dC, dI) vcl cI cJ (gsM a th tr dp zi co sh lt ts mf) A s.heap H1 locs1 := ⟨by rw [← ht]; exact hI1, hS⟩
          clear hpost hI1 hS ht hWt
          revert hI; generalize H1 = H; generalize locs1 = locs; intro hI
          refine lv_goto (tgt := 160) hx hb d_Mo_letter_105 (by decide) ?_
          subst hZ
          exact tz_ret (W.vret hx hb hr (fun t ht hW => ⟨⟨fun v9 hv9 => by cases hv9; exact (Or.inl ⟨rfl, c67, by omega, by rw [ht]; exact hI.1⟩), fun x9 hx9 => (by cases hx9)⟩, hI.2.F ht⟩) hI.2.2.2 d_Mo_letter_160)
        · cases hv
          have hI : sI (dC, dI) vcl cI cJ (gsM a th tr dp zi co t_sh68 lt ts mf) A s.heap H1 locs1 := ⟨by rw [← ht]; exact hI1, hS⟩
          obtain ⟨-, -, -, -, -, ⟨o70, o71⟩, -, -, -⟩ := id c69
          clear hpost hI1 hS ht hWt
          revert hI; generalize H1 = H; generalize locs1 = locs; intro hI
          refine lv_goto (tgt := 160) hx hb d_Mo_letter_105 (by decide) ?_
          subst hZ
          exact tz_ret (W.vret hx hb hr (fun t ht hW => ⟨⟨fun v9 hv9 => by cases hv9; exact (Or.inr (Or.inr (⟨t_sh68, rfl, c69, by omega, by omega, by omega, by rw [ht]; exact hI.1⟩))), fun x9 hx9 => (by cases hx9)⟩, hI.2.F ht⟩) hI.2.2.2 d_Mo_letter_160)
    · subst hZ
      exact tz_ret (W.vret hx hb hr (fun t ht hW => ⟨⟨fun v9 hv9 => by cases hv9; exact (Or.inr (Or.inl ⟨rfl, hok, by rw [ht]; exact hI.1⟩)), fun x9 hx9 => (by cases hx9)⟩, hI.2.F ht⟩) hI.2.2.2 d_Mo_letter_92)
  have j86p : ∀ (H : Heap) (locs : List Loc) (ls : Array Slot) (v86p_2 : Int32), sI (dC, dI) vcl cI cJ (gsM a th tr dp zi co sh lt ts mf) A s.heap H locs → okM th tr dp zi co sh lt ts mf → (-2147483648) ≤ v86p_2.toInt → v86p_2.toInt ≤ 2147483647 → 1 ≤ tr → x1.toInt ≤ 0 → sh ≤ sh + 2 → lv_has ls 3 [(0, .ref (a 0)), (1, .int x1), (2, .int v86p_2)] → W p l e (headSpec tw_tbl rm_Mo_letter).room s m ([.ref (a 0), .int x1] : List Value).toArray below meth c H locs 0 0 Z (F0 m 86 ls []) := by
    intro H locs ls v86p_2 hI hok g86_0 g86_1 g86_2 g86_3 g86_4 hl
    obtain ⟨⟨o72, o73⟩, ⟨o74, o75⟩, ⟨o76, o77⟩, ⟨o78, o79⟩, ⟨o80, o81⟩, ⟨o82, o83⟩, ⟨o84, o85⟩, ⟨o86, o87⟩, -⟩ := id hok
    refine lv_iload_n hx hb d_Mo_letter_86 rfl (lv_at hl 1 rfl) ?_
    refine sn_bipush hx hb d_Mo_letter_87 (by decide) (fun z88 hz88 => ?_)
    refine sn_icmp_ge (tgt := 93) hx hb d_Mo_letter_89 (by decide) (fun b89 => ?_) (fun b89 => ?_)
    · omega
    · subst hZ
      exact tz_ret (W.vret hx hb hr (fun t ht hW => ⟨⟨fun v9 hv9 => by cases hv9; exact (Or.inl ⟨rfl, hok, by omega, by rw [ht]; exact hI.1⟩), fun x9 hx9 => (by cases hx9)⟩, hI.2.F ht⟩) hI.2.2.2 d_Mo_letter_92)
  have j86z : ∀ (H : Heap) (locs : List Loc) (ls : Array Slot) (v86z_2 : Int32) (t86z_sh : Int), sI (dC, dI) vcl cI cJ (gsM a th tr dp zi co t86z_sh lt ts mf) A s.heap H locs → okM th tr dp zi co t86z_sh lt ts mf → (-2147483648) ≤ v86z_2.toInt → v86z_2.toInt ≤ 2147483647 → 1 ≤ t86z_sh → t86z_sh ≤ 2000000000 → tr ≤ 0 → x1.toInt ≤ 0 → t86z_sh ≤ sh + 2 → lv_has ls 3 [(0, .ref (a 0)), (1, .int x1), (2, .int v86z_2)] → W p l e (headSpec tw_tbl rm_Mo_letter).room s m ([.ref (a 0), .int x1] : List Value).toArray below meth c H locs 0 0 Z (F0 m 86 ls []) := by
    intro H locs ls v86z_2 t86z_sh hI hok g86_0 g86_1 g86_2 g86_3 g86_4 g86_5 g86_6 hl
    obtain ⟨⟨o90, o91⟩, ⟨o92, o93⟩, ⟨o94, o95⟩, ⟨o96, o97⟩, ⟨o98, o99⟩, ⟨o100, o101⟩, ⟨o102, o103⟩, ⟨o104, o105⟩, -⟩ := id hok
    refine lv_iload_n hx hb d_Mo_letter_86 rfl (lv_at hl 1 rfl) ?_
    refine sn_bipush hx hb d_Mo_letter_87 (by decide) (fun z106 hz106 => ?_)
    refine sn_icmp_ge (tgt := 93) hx hb d_Mo_letter_89 (by decide) (fun b107 => ?_) (fun b107 => ?_)
    · omega
    · subst hZ
      exact tz_ret (W.vret hx hb hr (fun t ht hW => ⟨⟨fun v9 hv9 => by cases hv9; exact (Or.inr (Or.inr (⟨t86z_sh, rfl, hok, by omega, by omega, by omega, by rw [ht]; exact hI.1⟩))), fun x9 hx9 => (by cases hx9)⟩, hI.2.F ht⟩) hI.2.2.2 d_Mo_letter_92)
  refine lv_aload_n hx hb d_Mo_letter_0 rfl (lv_at hl 0 rfl) ?_
  refine sv_get (C := "StoryMachineModel") (T := T_Mo) (N := 51) hx hb hts in_Mo hown hK hI 0 kM_0 rfl 45 (by decide) (hts _ mw_1108) rfl d_Mo_letter_1 (fun z108 hz108a hz108b => ?_)
  refine sn_iconst hx hb d_Mo_letter_4 (by decide) (fun z109 hz109 => ?_)
  refine sn_icmp_ne (tgt := 19) hx hb d_Mo_letter_5 (by decide) (fun b110 => ?_) (fun b110 => ?_)
  · refine lv_aload_n hx hb d_Mo_letter_19 rfl (lv_at hl 0 rfl) ?_
    refine sv_get (C := "StoryMachineModel") (T := T_Mo) (N := 51) hx hb hts in_Mo hown hK hI 0 kM_0 rfl 45 (by decide) (hts _ mw_1108) rfl d_Mo_letter_20 (fun z111 hz111a hz111b => ?_)
    refine sn_iconst hx hb d_Mo_letter_23 (by decide) (fun z112 hz112 => ?_)
    refine sn_icmp_ne (tgt := 50) hx hb d_Mo_letter_24 (by decide) (fun b113 => ?_) (fun b113 => ?_)
    · refine lv_aload_n hx hb d_Mo_letter_50 rfl (lv_at hl 0 rfl) ?_
      refine sv_get (C := "StoryMachineModel") (T := T_Mo) (N := 51) hx hb hts in_Mo hown hK hI 0 kM_0 rfl 44 (by decide) (hts _ mw_1107) rfl d_Mo_letter_51 (fun z114 hz114a hz114b => ?_)
      refine lv_istore_n (lv' := [(2, .int z114), (0, .ref (a 0)), (1, .int x1)]) hx hb d_Mo_letter_54 rfl hl (by decide) rfl (fun ls hl => ?_)
      refine lv_aload_n hx hb d_Mo_letter_55 rfl (lv_at hl 1 rfl) ?_
      refine lv_iload_n hx hb d_Mo_letter_56 rfl (lv_at hl 2 rfl) ?_
      refine sn_iconst hx hb d_Mo_letter_57 (by decide) (fun z115 hz115 => ?_)
      refine sn_icmp_eq (tgt := 66) hx hb d_Mo_letter_58 (by decide) (fun b116 => ?_) (fun b116 => ?_)
      · refine lv_iload_n hx hb d_Mo_letter_66 rfl (lv_at hl 2 rfl) ?_
        refine sn_iconst hx hb d_Mo_letter_67 (by decide) (fun z117 hz117 => ?_)
        refine sn_isub hx hb d_Mo_letter_68 (by omega) (by omega) (fun z118 hz118 => ?_)
        refine lv_goto (tgt := 73) hx hb d_Mo_letter_69 (by decide) ?_
        refine sv_put (C := "StoryMachineModel") (T := T_Mo) (N := 51) (ty := .int) hx hb hts in_Mo t_Mo tk_Mo nm_Mo hown hK (sh_in adM_map hAC) hI 0 kM_0 rfl 44 (by decide) (hts _ mw_1107) rfl (by decide +kernel) rfl rfl (Nat.le_of_ble_eq_true rfl) (by omega) (by omega) pM_0_44 d_Mo_letter_73 (fun H locs hI => ?_)
        refine lv_iload_n hx hb d_Mo_letter_76 rfl (lv_at hl 2 rfl) ?_
        refine sn_if_ne (tgt := 86) hx hb d_Mo_letter_77 (by decide) (fun b119 => ?_) (fun b119 => ?_)
        · exact j86u _ _ _ z114 hI hok (by omega) (by omega) (by omega) (by omega) (lv_sub hl [1, 2, 0] rfl)
        · omega
      · refine lv_iload_n hx hb d_Mo_letter_61 rfl (lv_at hl 2 rfl) ?_
        refine sn_iconst hx hb d_Mo_letter_62 (by decide) (fun z120 hz120 => ?_)
        refine sn_icmp_ne (tgt := 72) hx hb d_Mo_letter_63 (by decide) (fun b121 => ?_) (fun b121 => ?_)
        · refine sn_iconst hx hb d_Mo_letter_72 (by decide) (fun z122 hz122 => ?_)
          refine sv_put (C := "StoryMachineModel") (T := T_Mo) (N := 51) (ty := .int) hx hb hts in_Mo t_Mo tk_Mo nm_Mo hown hK (sh_in adM_map hAC) hI 0 kM_0 rfl 44 (by decide) (hts _ mw_1107) rfl (by decide +kernel) rfl rfl (Nat.le_of_ble_eq_true rfl) (by omega) (by omega) pM_0_44 d_Mo_letter_73 (fun H locs hI => ?_)
          refine lv_iload_n hx hb d_Mo_letter_76 rfl (lv_at hl 2 rfl) ?_
          refine sn_if_ne (tgt := 86) hx hb d_Mo_letter_77 (by decide) (fun b123 => ?_) (fun b123 => ?_)
          · exact j86u _ _ _ z114 hI hok (by omega) (by omega) (by omega) (by omega) (lv_sub hl [1, 2, 0] rfl)
          · refine lv_aload_n hx hb d_Mo_letter_80 rfl (lv_at hl 1 rfl) ?_
            refine sn_bipush hx hb d_Mo_letter_81 (by decide) (fun z124 hz124 => ?_)
            refine tz_call (A1 := ga (adM a) H.size) (tz_runV (C := "StoryMachineModel") (As := [.int z124]) (rest := []) ⟨hx, hb, hml, hown, hts⟩ (c_Mo_show l hfl dC dI cI cJ a H.size th tr dp zi co sh lt ts mf z124 hok (by omega)) (tx_cb (n := 1) hts rfl rfl ⟨Nat.le_of_ble_eq_true rfl, Nat.le_of_ble_eq_true rfl⟩ (tx_code.of (hts _ mw_1410)) (hts _ mw_12) (by decide +kernel) (hts _ mw_1407)) (hts _ mw_1409) (hts _ ms_Mo_show) ⟨tz_blind, sv_recv (q0 := 0) hts in_Mo hK hI kM_0 rfl, fun U hU hW => ⟨rfl, by rw [hU], by rw [hU]; exact hI.1, va_K.moved hW.alike hK, hst _ _ hI.2 U hU hW⟩⟩ rfl rfl hl.1 rfl (lv_room (Nat.le_of_ble_eq_true rfl)) d_Mo_letter_83 ⟨Nat.le_of_ble_eq_true rfl, Nat.le_of_ble_eq_true rfl⟩) hI.2 (fun q _ h => ga_sub hAC hA0 hI.2 q h) (ga_sub hAC hA0 hI.2) (fun v t H1 locs1 ht hWt hpost _ _ hS => ?_) (fun x t H1 locs1 ht hWt hpost _ _ hS => (hpost.2 x rfl).elim)
            rcases hpost.1 _ rfl with ⟨hv, c125, c125_0, hI1⟩ | ⟨t_sh126, hv, c127, c127_0, c127_1, c127_2, hI1⟩
            · cases hv
              have hI : sI (dC, dI) vcl cI cJ (gsM a th tr dp zi co sh lt ts mf) A s.heap H1 locs1 := ⟨by rw [← ht]; exact hI1, hS⟩
              clear hpost hI1 hS ht hWt
              revert hI; generalize H1 = H; generalize locs1 = locs; intro hI
              exact j86p _ _ _ z114 hI c125 (by omega) (by omega) (by omega) (by omega) (by omega) (lv_sub hl [1, 2, 0] rfl)
            · cases hv
              have hI : sI (dC, dI) vcl cI cJ (gsM a th tr dp zi co t_sh126 lt ts mf) A s.heap H1 locs1 := ⟨by rw [← ht]; exact hI1, hS⟩
              obtain ⟨-, -, -, -, -, ⟨o128, o129⟩, -, -, -⟩ := id c127
              clear hpost hI1 hS ht hWt
              revert hI; generalize H1 = H; generalize locs1 = locs; intro hI
              exact j86z _ _ _ z114 t_sh126 hI c127 (by omega) (by omega) (by omega) (by omega) (by omega) (by omega) (by omega) (lv_sub hl [1, 2, 0] rfl)
        · refine lv_iload_n hx hb d_Mo_letter_66 rfl (lv_at hl 2 rfl) ?_
          refine sn_iconst hx hb d_Mo_letter_67 (by decide) (fun z130 hz130 => ?_)
          refine sn_isub hx hb d_Mo_letter_68 (by omega) (by omega) (fun z131 hz131 => ?_)
          refine lv_goto (tgt := 73) hx hb d_Mo_letter_69 (by decide) ?_
          refine sv_put (C := "StoryMachineModel") (T := T_Mo) (N := 51) (ty := .int) hx hb hts in_Mo t_Mo tk_Mo nm_Mo hown hK (sh_in adM_map hAC) hI 0 kM_0 rfl 44 (by decide) (hts _ mw_1107) rfl (by decide +kernel) rfl rfl (Nat.le_of_ble_eq_true rfl) (by omega) (by omega) pM_0_44 d_Mo_letter_73 (fun H locs hI => ?_)
          refine lv_iload_n hx hb d_Mo_letter_76 rfl (lv_at hl 2 rfl) ?_
          refine sn_if_ne (tgt := 86) hx hb d_Mo_letter_77 (by decide) (fun b132 => ?_) (fun b132 => ?_)
          · exact j86u _ _ _ z114 hI hok (by omega) (by omega) (by omega) (by omega) (lv_sub hl [1, 2, 0] rfl)
          · omega
    · refine lv_aload_n hx hb d_Mo_letter_27 rfl (lv_at hl 0 rfl) ?_
      refine sn_iconst hx hb d_Mo_letter_28 (by decide) (fun z133 hz133 => ?_)
      refine sv_put (C := "StoryMachineModel") (T := T_Mo) (N := 51) (ty := .int) hx hb hts in_Mo t_Mo tk_Mo nm_Mo hown hK (sh_in adM_map hAC) hI 0 kM_0 rfl 45 (by decide) (hts _ mw_1108) rfl (by decide +kernel) rfl rfl (Nat.le_of_ble_eq_true rfl) (by omega) (by omega) pM_0_45 d_Mo_letter_29 (fun H locs hI => ?_)
      refine lv_aload_n hx hb d_Mo_letter_32 rfl (lv_at hl 0 rfl) ?_
      refine sn_bipush hx hb d_Mo_letter_33 (by decide) (fun z134 hz134 => ?_)
      refine lv_aload_n hx hb d_Mo_letter_35 rfl (lv_at hl 0 rfl) ?_
      refine sv_get (C := "StoryMachineModel") (T := T_Mo) (N := 51) hx hb hts in_Mo hown hK hI 0 kM_0 rfl 46 (by decide) (hts _ mw_1109) rfl d_Mo_letter_36 (fun z135 hz135a hz135b => ?_)
      refine sn_imulT hx hb d_Mo_letter_39 (fun z136 hz136a hz136b => ?_)
      refine lv_iload_n hx hb d_Mo_letter_40 rfl (lv_at hl 1 rfl) ?_
      refine sn_iaddT hx hb d_Mo_letter_41 (fun z137 hz137a hz137b => ?_)
      refine sn_sipush hx hb d_Mo_letter_42 (by decide) (fun z138 hz138 => ?_)
      refine sn_iremT hx hb d_Mo_letter_45 (by omega) (fun z139 hz139a hz139b => ?_)
      refine tz_call (A1 := ga (adM a) H.size) (tz_runV (C := "StoryMachineModel") (As := [.int z139]) (rest := []) ⟨hx, hb, hml, hown, hts⟩ (c_Mo_show l hfl dC dI cI cJ a H.size th tr dp zi co sh lt ts mf z139 hok (by omega)) (tx_cb (n := 1) hts rfl rfl ⟨Nat.le_of_ble_eq_true rfl, Nat.le_of_ble_eq_true rfl⟩ (tx_code.of (hts _ mw_1410)) (hts _ mw_12) (by decide +kernel) (hts _ mw_1407)) (hts _ mw_1409) (hts _ ms_Mo_show) ⟨tz_blind, sv_recv (q0 := 0) hts in_Mo hK hI kM_0 rfl, fun U hU hW => ⟨rfl, by rw [hU], by rw [hU]; exact hI.1, va_K.moved hW.alike hK, hst _ _ hI.2 U hU hW⟩⟩ rfl rfl hl.1 rfl (lv_room (Nat.le_of_ble_eq_true rfl)) d_Mo_letter_46 ⟨Nat.le_of_ble_eq_true rfl, Nat.le_of_ble_eq_true rfl⟩) hI.2 (fun q _ h => ga_sub hAC hA0 hI.2 q h) (ga_sub hAC hA0 hI.2) (fun v t H1 locs1 ht hWt hpost _ _ hS => ?_) (fun x t H1 locs1 ht hWt hpost _ _ hS => (hpost.2 x rfl).elim)
      rcases hpost.1 _ rfl with ⟨hv, c140, c140_0, hI1⟩ | ⟨t_sh141, hv, c142, c142_0, c142_1, c142_2, hI1⟩
      · cases hv
        have hI : sI (dC, dI) vcl cI cJ (gsM a th tr dp zi co sh lt ts mf) A s.heap H1 locs1 := ⟨by rw [← ht]; exact hI1, hS⟩
        clear hpost hI1 hS ht hWt
        revert hI; generalize H1 = H; generalize locs1 = locs; intro hI
        subst hZ
        exact tz_ret (W.vret hx hb hr (fun t ht hW => ⟨⟨fun v9 hv9 => by cases hv9; exact (Or.inl ⟨rfl, c140, by omega, by rw [ht]; exact hI.1⟩), fun x9 hx9 => (by cases hx9)⟩, hI.2.F ht⟩) hI.2.2.2 d_Mo_letter_49)
      · cases hv
        have hI : sI (dC, dI) vcl cI cJ (gsM a th tr dp zi co t_sh141 lt ts mf) A s.heap H1 locs1 := ⟨by rw [← ht]; exact hI1, hS⟩
        obtain ⟨-, -, -, -, -, ⟨o143, o144⟩, -, -, -⟩ := id c142
        clear hpost hI1 hS ht hWt
        revert hI; generalize H1 = H; generalize locs1 = locs; intro hI
        subst hZ
        exact tz_ret (W.vret hx hb hr (fun t ht hW => ⟨⟨fun v9 hv9 => by cases hv9; exact (Or.inr (Or.inr (⟨t_sh141, rfl, c142, by omega, by omega, by omega, by rw [ht]; exact hI.1⟩))), fun x9 hx9 => (by cases hx9)⟩, hI.2.F ht⟩) hI.2.2.2 d_Mo_letter_49)
  · refine lv_aload_n hx hb d_Mo_letter_8 rfl (lv_at hl 0 rfl) ?_
    refine lv_iload_n hx hb d_Mo_letter_9 rfl (lv_at hl 1 rfl) ?_
    refine sv_put (C := "StoryMachineModel") (T := T_Mo) (N := 51) (ty := .int) hx hb hts in_Mo t_Mo tk_Mo nm_Mo hown hK (sh_in adM_map hAC) hI 0 kM_0 rfl 46 (by decide) (hts _ mw_1109) rfl (by decide +kernel) rfl rfl (Nat.le_of_ble_eq_true rfl) (by omega) (by omega) pM_0_46 d_Mo_letter_10 (fun H locs hI => ?_)
    refine lv_aload_n hx hb d_Mo_letter_13 rfl (lv_at hl 0 rfl) ?_
    refine sn_iconst hx hb d_Mo_letter_14 (by decide) (fun z145 hz145 => ?_)
    refine sv_put (C := "StoryMachineModel") (T := T_Mo) (N := 51) (ty := .int) hx hb hts in_Mo t_Mo tk_Mo nm_Mo hown hK (sh_in adM_map hAC) hI 0 kM_0 rfl 45 (by decide) (hts _ mw_1108) rfl (by decide +kernel) rfl rfl (Nat.le_of_ble_eq_true rfl) (by omega) (by omega) pM_0_45 d_Mo_letter_15 (fun H locs hI => ?_)
    subst hZ
    exact tz_ret (W.vret hx hb hr (fun t ht hW => ⟨⟨fun v9 hv9 => by cases hv9; exact (Or.inr (Or.inl ⟨rfl, hok, by rw [ht]; exact hI.1⟩)), fun x9 hx9 => (by cases hx9)⟩, hI.2.F ht⟩) hI.2.2.2 d_Mo_letter_18)
