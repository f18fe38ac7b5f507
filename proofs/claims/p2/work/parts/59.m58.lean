abbrev q_Mo_reckon (dC : Nat → ClassId) (dI : Nat → Nat → Nat) (cI cJ : ClassId) (a : Nat → Nat) (th tr dp zi co sh lt ts : Int) (mf : Nat → Int32) (x1 : Int32) (x2 : Int32) (x3 : Int32) : Outcome → State → Prop := fun o t => (∀ v, o = .returned v → ((∃ (tr_ : Int), v = none ∧ okM th tr_ dp zi co sh lt ts mf ∧ (1 ≤ tr_) ∧ sh_I (dC, dI) vcl cI cJ (gsM a th tr_ dp zi co sh lt ts mf) t.heap) ∨ (∃ (zi_ : Int) (mf_ : Nat → Int32), v = none ∧ okM th tr dp zi_ co sh lt ts mf_ ∧ (tr ≤ 0) ∧ sh_I (dC, dI) vcl cI cJ (gsM a th tr dp zi_ co sh lt ts mf_) t.heap))) ∧ (∀ x, o = .threw x → (False))
def rm_Mo_reckon : Room := { frames := 8, cells := 0, slots := 0, locals := 180 }
set_option maxHeartbeats 4000000 in
set_option maxRecDepth 100000 in
theorem c_Mo_reckon (l : Launch) (hfl : l.flags = pinnedFlags ++ [noTraceFlag]) (dC : Nat → ClassId) (dI : Nat → Nat → Nat) (cI cJ : ClassId) (a : Nat → Nat) (sz : Nat) (th tr dp zi co sh lt ts : Int) (mf : Nat → Int32) (x1 : Int32) (x2 : Int32) (x3 : Int32) (hok : okM th tr dp zi co sh lt ts mf) (hp0 : 0 ≤ x1.toInt) (hp1 : x1.toInt ≤ 31) (hp2 : 0 ≤ x2.toInt) (hp3 : x2.toInt ≤ 65535) (hp4 : 0 ≤ x3.toInt) (hp5 : x3.toInt ≤ 65535) : tz_Met l ⟨"StoryMachineModel", "reckon", "(III)V"⟩ tw_tbl rm_Mo_reckon (tzP (dC, dI) vcl cI cJ (gsM a th tr dp zi co sh lt ts mf) a (adM a) [.ref (a 0), .int x1, .int x2, .int x3] sz) (tq_Q (q_Mo_reckon dC dI cI cJ a th tr dp zi co sh lt ts mf x1 x2 x3) (ga (adM a) sz)) 0 0 0 0 (ga (adM a) sz) := by
  refine tz_ofW (cc := prog_13_method_49_code) (maxL := 5) (ret := none) (by decide) (tx_isM mw_1361) ?_
  intro p e s m args below meth c s₁ B hml hv
  obtain ⟨rfl, hsz, hI0, hK, hst0⟩ := hv
  have hx := B.exec
  have hb := B.bytes
  have hr := B.returns
  have hts := atoms_spec (ws := tw_tbl) B.pre
  have hown : s.vm.findClass "StoryMachineModel" = some m.cls := findClass_of_methodNamed B.named
  have hlocks := B.notSynchronized
  subst hsz
  have hst := fun (H : Heap) (locs : List Loc) (hS : va_S (ga (adM a) s.heap.size) s.heap H locs) (U : State) (hU : U.heap = H) (hW : s.WarmedH U.vm) => zS_all adM_map hI0 hst0 hS hU hW
  have hAC : ∀ q ∈ adM a, ga (adM a) s.heap.size q := fun q h => Or.inl h
  have hA0 : ∀ q, s.heap.size ≤ q → ga (adM a) s.heap.size q := fun q h => Or.inr h
  have hI : sI (dC, dI) vcl cI cJ (gsM a th tr dp zi co sh lt ts mf) (ga (adM a) s.heap.size) s.heap s.heap [] := ⟨hI0, va_S.rf⟩
  clear hI0 hst0
  have hl := lv_entry ([.ref (a 0), .int x1, .int x2, .int x3]) (n := 5) (Nat.le_of_ble_eq_true rfl)
  rw [lg_entry_eq]
  generalize (lg_sl ([.ref (a 0), .int x1, .int x2, .int x3]) ++ List.replicate (5 - (lg_sl ([.ref (a 0), .int x1, .int x2, .int x3])).length) Slot.unset).toArray = ls at hl ⊢
  have hl : lv_has ls 5 [(0, .ref (a 0)), (1, .int x1), (2, .int x2), (3, .int x3)] := hl
  generalize hZ : tz_MQ below (tq_Q (q_Mo_reckon dC dI cI cJ a th tr dp zi co sh lt ts mf x1 x2 x3) (ga (adM a) s.heap.size)) ([.ref (a 0), .int x1, .int x2, .int x3] : List Value).toArray s 0 0 0 0 (ga (adM a) s.heap.size) = Z
  obtain ⟨A, hAe⟩ : ∃ A, A = ga (adM a) s.heap.size := ⟨_, rfl⟩
  rw [← hAe] at hst hAC hA0 hI hZ
  refine sv_start hI (fun H locs hI => ?_)
  obtain ⟨⟨o1, o2⟩, ⟨o3, o4⟩, ⟨o5, o6⟩, ⟨o7, o8⟩, ⟨o9, o10⟩, ⟨o11, o12⟩, ⟨o13, o14⟩, ⟨o15, o16⟩, -⟩ := id hok
  have gx1 := sn_rng x1
  have gx2 := sn_rng x2
  have gx3 := sn_rng x3
  have j180p : ∀ (H : Heap) (locs : List Loc) (ls : Array Slot) (v180p_4 : Int32) (t180p_tr : Int), sI (dC, dI) vcl cI cJ (gsM a th t180p_tr dp zi co sh lt ts mf) A s.heap H locs → okM th t180p_tr dp zi co sh lt ts mf → 0 ≤ v180p_4.toInt → v180p_4.toInt ≤ 65280 → 1 ≤ t180p_tr → t180p_tr ≤ 4 → lv_has ls 5 [(0, .ref (a 0)), (1, .int x1), (2, .int x2), (3, .int x3), (4, .int v180p_4)] → W p l e (headSpec tw_tbl rm_Mo_reckon).room s m ([.ref (a 0), .int x1, .int x2, .int x3] : List Value).toArray below meth c H locs 0 0 Z (F0 m 180 ls []) := by
    intro H locs ls v180p_4 t180p_tr hI hok g180_0 g180_1 g180_2 g180_3 hl
    obtain ⟨⟨o17, o18⟩, ⟨o19, o20⟩, ⟨o21, o22⟩, ⟨o23, o24⟩, ⟨o25, o26⟩, ⟨o27, o28⟩, ⟨o29, o30⟩, ⟨o31, o32⟩, -⟩ := id hok
    refine lv_aload_n hx hb d_Mo_reckon_180 rfl (lv_at hl 0 rfl) ?_
    refine sv_gete (C := "StoryMachineModel") (T := T_Mo) (N := 51) hx hb hts in_Mo hown hK hI 0 kM_0 rfl 25 (by decide) (hts _ mw_1088) rfl d_Mo_reckon_181 (fun z33 hz33 => ?_)
    refine sn_if_ne (tgt := 193) hx hb d_Mo_reckon_184 (by decide) (fun b34 => ?_) (fun b34 => ?_)
    · subst hZ
      exact tz_ret (W.vret hx hb hr (fun t ht hW => ⟨⟨fun v9 hv9 => by cases hv9; exact (Or.inl ⟨t180p_tr, rfl, hok, by omega, by rw [ht]; exact hI.1⟩), fun x9 hx9 => (by cases hx9)⟩, hI.2.F ht⟩) hI.2.2.2 d_Mo_reckon_193)
    · omega
  have j180z : ∀ (H : Heap) (locs : List Loc) (ls : Array Slot) (v180z_4 : Int32), sI (dC, dI) vcl cI cJ (gsM a th tr dp zi co sh lt ts mf) A s.heap H locs → okM th tr dp zi co sh lt ts mf → (-2147483648) ≤ v180z_4.toInt → v180z_4.toInt ≤ 2147483647 → tr ≤ 0 → lv_has ls 5 [(0, .ref (a 0)), (1, .int x1), (2, .int x2), (3, .int x3), (4, .int v180z_4)] → W p l e (headSpec tw_tbl rm_Mo_reckon).room s m ([.ref (a 0), .int x1, .int x2, .int x3] : List Value).toArray below meth c H locs 0 0 Z (F0 m 180 ls []) := by
    intro H locs ls v180z_4 hI hok g180_0 g180_1 g180_2 hl
    obtain ⟨⟨o35, o36⟩, ⟨o37, o38⟩, ⟨o39, o40⟩, ⟨o41, o42⟩, ⟨o43, o44⟩, ⟨o45, o46⟩, ⟨o47, o48⟩, ⟨o49, o50⟩, -⟩ := id hok
    refine lv_aload_n hx hb d_Mo_reckon_180 rfl (lv_at hl 0 rfl) ?_
    refine sv_gete (C := "StoryMachineModel") (T := T_Mo) (N := 51) hx hb hts in_Mo hown hK hI 0 kM_0 rfl 25 (by decide) (hts _ mw_1088) rfl d_Mo_reckon_181 (fun z51 hz51 => ?_)
    refine sn_if_ne (tgt := 193) hx hb d_Mo_reckon_184 (by decide) (fun b52 => ?_) (fun b52 => ?_)
    · omega
    · refine lv_aload_n hx hb d_Mo_reckon_187 rfl (lv_at hl 0 rfl) ?_
      refine lv_iload hx hb d_Mo_reckon_188 (lv_at hl 4 rfl) ?_
      refine tz_call (A1 := ga (adM a) H.size) (tz_runV (C := "StoryMachineModel") (As := [.int v180z_4]) (rest := []) ⟨hx, hb, hml, hown, hts⟩ (c_Mo_give l hfl dC dI cI cJ a H.size th tr dp zi co sh lt ts mf v180z_4 hok) (tx_cb (n := 1) hts rfl rfl ⟨Nat.le_of_ble_eq_true rfl, Nat.le_of_ble_eq_true rfl⟩ (tx_code.of (hts _ mw_1333)) (hts _ mw_12) (by decide +kernel) (hts _ mw_1330)) (hts _ mw_1332) (hts _ ms_Mo_give) ⟨tz_blind, sv_recv (q0 := 0) hts in_Mo hK hI kM_0 rfl, fun U hU hW => ⟨rfl, by rw [hU], by rw [hU]; exact hI.1, va_K.moved hW.alike hK, hst _ _ hI.2 U hU hW⟩⟩ rfl rfl hl.1 rfl (lv_room (Nat.le_of_ble_eq_true rfl)) d_Mo_reckon_190 ⟨Nat.le_of_ble_eq_true rfl, Nat.le_of_ble_eq_true rfl⟩) hI.2 (fun q _ h => ga_sub hAC hA0 hI.2 q h) (ga_sub hAC hA0 hI.2) (fun v t H1 locs1 ht hWt hpost _ _ hS => ?_) (fun x t H1 locs1 ht hWt hpost _ _ hS => (hpost.2 x rfl).elim)
      rcases hpost.1 _ rfl with ⟨t_tr53, hv, c54, c54_0, hI1⟩ | ⟨t_zi55, f_mf56, hv, c57, c57_0, hI1⟩
      · cases hv
        have hI : sI (dC, dI) vcl cI cJ (gsM a th t_tr53 dp zi co sh lt ts mf) A s.heap H1 locs1 := ⟨by rw [← ht]; exact hI1, hS⟩
        obtain ⟨-, ⟨o58, o59⟩, -, -, -, -, -, -, -⟩ := id c54
        clear hpost hI1 hS ht hWt
        revert hI; generalize H1 = H; generalize locs1 = locs; intro hI
        subst hZ
        exact tz_ret (W.vret hx hb hr (fun t ht hW => ⟨⟨fun v9 hv9 => by cases hv9; exact (Or.inl ⟨t_tr53, rfl, c54, by omega, by rw [ht]; exact hI.1⟩), fun x9 hx9 => (by cases hx9)⟩, hI.2.F ht⟩) hI.2.2.2 d_Mo_reckon_193)
      · cases hv
        have hI : sI (dC, dI) vcl cI cJ (gsM a th tr dp t_zi55 co sh lt ts f_mf56) A s.heap H1 locs1 := ⟨by rw [← ht]; exact hI1, hS⟩
        obtain ⟨-, -, -, ⟨o60, o61⟩, -, -, -, -, -⟩ := id c57
        clear hpost hI1 hS ht hWt
        revert hI; generalize H1 = H; generalize locs1 = locs; intro hI
        subst hZ
        exact tz_ret (W.vret hx hb hr (fun t ht hW => ⟨⟨fun v9 hv9 => by cases hv9; exact (Or.inr (⟨t_zi55, f_mf56, rfl, c57, by omega, by rw [ht]; exact hI.1⟩)), fun x9 hx9 => (by cases hx9)⟩, hI.2.F ht⟩) hI.2.2.2 d_Mo_reckon_193)
  have j180u : ∀ (H : Heap) (locs : List Loc) (ls : Array Slot) (v180u_4 : Int32), sI (dC, dI) vcl cI cJ (gsM a th tr dp zi co sh lt ts mf) A s.heap H locs → okM th tr dp zi co sh lt ts mf → (-2147483648) ≤ v180u_4.toInt → v180u_4.toInt ≤ 2147483647 → 20 ≤ x1.toInt → x1.toInt ≤ 22 → lv_has ls 5 [(0, .ref (a 0)), (1, .int x1), (2, .int x2), (3, .int x3), (4, .int v180u_4)] → W p l e (headSpec tw_tbl rm_Mo_reckon).room s m ([.ref (a 0), .int x1, .int x2, .int x3] : List Value).toArray below meth c H locs 0 0 Z (F0 m 180 ls []) := by
    intro H locs ls v180u_4 hI hok g180_0 g180_1 g180_2 g180_3 hl
    obtain ⟨⟨o62, o63⟩, ⟨o64, o65⟩, ⟨o66, o67⟩, ⟨o68, o69⟩, ⟨o70, o71⟩, ⟨o72, o73⟩, ⟨o74, o75⟩, ⟨o76, o77⟩, -⟩ := id hok
    refine lv_aload_n hx hb d_Mo_reckon_180 rfl (lv_at hl 0 rfl) ?_
    refine sv_gete (C := "StoryMachineModel") (T := T_Mo) (N := 51) hx hb hts in_Mo hown hK hI 0 kM_0 rfl 25 (by decide) (hts _ mw_1088) rfl d_Mo_reckon_181 (fun z78 hz78 => ?_)
    refine sn_if_ne (tgt := 193) hx hb d_Mo_reckon_184 (by decide) (fun b79 => ?_) (fun b79 => ?_)
    · subst hZ
      exact tz_ret (W.vret hx hb hr (fun t ht hW => ⟨⟨fun v9 hv9 => by cases hv9; exact (Or.inl ⟨tr, rfl, hok, by omega, by rw [ht]; exact hI.1⟩), fun x9 hx9 => (by cases hx9)⟩, hI.2.F ht⟩) hI.2.2.2 d_Mo_reckon_193)
    · refine lv_aload_n hx hb d_Mo_reckon_187 rfl (lv_at hl 0 rfl) ?_
      refine lv_iload hx hb d_Mo_reckon_188 (lv_at hl 4 rfl) ?_
      refine tz_call (A1 := ga (adM a) H.size) (tz_runV (C := "StoryMachineModel") (As := [.int v180u_4]) (rest := []) ⟨hx, hb, hml, hown, hts⟩ (c_Mo_give l hfl dC dI cI cJ a H.size th tr dp zi co sh lt ts mf v180u_4 hok) (tx_cb (n := 1) hts rfl rfl ⟨Nat.le_of_ble_eq_true rfl, Nat.le_of_ble_eq_true rfl⟩ (tx_code.of (hts _ mw_1333)) (hts _ mw_12) (by decide +kernel) (hts _ mw_1330)) (hts _ mw_1332) (hts _ ms_Mo_give) ⟨tz_blind, sv_recv (q0 := 0) hts in_Mo hK hI kM_0 rfl, fun U hU hW => ⟨rfl, by rw [hU], by rw [hU]; exact hI.1, va_K.moved hW.alike hK, hst _ _ hI.2 U hU hW⟩⟩ rfl rfl hl.1 rfl (lv_room (Nat.le_of_ble_eq_true rfl)) d_Mo_reckon_190 ⟨Nat.le_of_ble_eq_true rfl, Nat.le_of_ble_eq_true rfl⟩) hI.2 (fun q _ h => ga_sub hAC hA0 hI.2 q h) (ga_sub hAC hA0 hI.2) (fun v t H1 locs1 ht hWt hpost _ _ hS => ?_) (fun x t H1 locs1 ht hWt hpost _ _ hS => (hpost.2 x rfl).elim)
      rcases hpost.1 _ rfl with ⟨t_tr80, hv, c81, c81_0, hI1⟩ | ⟨t_zi82, f_mf83, hv, c84, c84_0, hI1⟩
      · cases hv
        have hI : sI (dC, dI) vcl cI cJ (gsM a th t_tr80 dp zi co sh lt ts mf) A s.heap H1 locs1 := ⟨by rw [← ht]; exact hI1, hS⟩
        obtain ⟨-, ⟨o85, o86⟩, -, -, -, -, -, -, -⟩ := id c81
        clear hpost hI1 hS ht hWt
        revert hI; generalize H1 = H; generalize locs1 = locs; intro hI
        subst hZ
        exact tz_ret (W.vret hx hb hr (fun t ht hW => ⟨⟨fun v9 hv9 => by cases hv9; exact (Or.inl ⟨t_tr80, rfl, c81, by omega, by rw [ht]; exact hI.1⟩), fun x9 hx9 => (by cases hx9)⟩, hI.2.F ht⟩) hI.2.2.2 d_Mo_reckon_193)
      · cases hv
        have hI : sI (dC, dI) vcl cI cJ (gsM a th tr dp t_zi82 co sh lt ts f_mf83) A s.heap H1 locs1 := ⟨by rw [← ht]; exact hI1, hS⟩
        obtain ⟨-, -, -, ⟨o87, o88⟩, -, -, -, -, -⟩ := id c84
        clear hpost hI1 hS ht hWt
        revert hI; generalize H1 = H; generalize locs1 = locs; intro hI
        subst hZ
        exact tz_ret (W.vret hx hb hr (fun t ht hW => ⟨⟨fun v9 hv9 => by cases hv9; exact (Or.inr (⟨t_zi82, f_mf83, rfl, c84, by omega, by rw [ht]; exact hI.1⟩)), fun x9 hx9 => (by cases hx9)⟩, hI.2.F ht⟩) hI.2.2.2 d_Mo_reckon_193)
  refine sn_iconst hx hb d_Mo_reckon_0 (by decide) (fun z89 hz89 => ?_)
  refine lv_istore (lv' := [(4, .int z89), (0, .ref (a 0)), (1, .int x1), (2, .int x2), (3, .int x3)]) hx hb d_Mo_reckon_1 hl (by decide) rfl (fun ls hl => ?_)
  refine lv_iload_n hx hb d_Mo_reckon_3 rfl (lv_at hl 2 rfl) ?_
  refine sn_bipush hx hb d_Mo_reckon_4 (by decide) (fun z90 hz90 => ?_)
  refine sn_icmp_ne (tgt := 23) hx hb d_Mo_reckon_6 (by decide) (fun b91 => ?_) (fun b91 => ?_)
  · refine lv_iload_n hx hb d_Mo_reckon_23 rfl (lv_at hl 2 rfl) ?_
    refine sn_bipush hx hb d_Mo_reckon_24 (by decide) (fun z92 hz92 => ?_)
    refine sn_icmp_ne (tgt := 41) hx hb d_Mo_reckon_26 (by decide) (fun b93 => ?_) (fun b93 => ?_)
    · refine lv_iload_n hx hb d_Mo_reckon_41 rfl (lv_at hl 2 rfl) ?_
      refine sn_bipush hx hb d_Mo_reckon_42 (by decide) (fun z94 hz94 => ?_)
      refine sn_icmp_ne (tgt := 58) hx hb d_Mo_reckon_44 (by decide) (fun b95 => ?_) (fun b95 => ?_)
      · refine lv_iload_n hx hb d_Mo_reckon_58 rfl (lv_at hl 2 rfl) ?_
        refine sn_bipush hx hb d_Mo_reckon_59 (by decide) (fun z96 hz96 => ?_)
        refine sn_icmp_ne (tgt := 75) hx hb d_Mo_reckon_61 (by decide) (fun b97 => ?_) (fun b97 => ?_)
        · refine lv_iload_n hx hb d_Mo_reckon_75 rfl (lv_at hl 2 rfl) ?_
          refine sn_bipush hx hb d_Mo_reckon_76 (by decide) (fun z98 hz98 => ?_)
          refine sn_icmp_ne (tgt := 92) hx hb d_Mo_reckon_78 (by decide) (fun b99 => ?_) (fun b99 => ?_)
          · refine lv_iload_n hx hb d_Mo_reckon_92 rfl (lv_at hl 2 rfl) ?_
            refine sn_bipush hx hb d_Mo_reckon_93 (by decide) (fun z100 hz100 => ?_)
            refine sn_icmp_ne (tgt := 106) hx hb d_Mo_reckon_95 (by decide) (fun b101 => ?_) (fun b101 => ?_)
            · refine lv_iload_n hx hb d_Mo_reckon_106 rfl (lv_at hl 2 rfl) ?_
              refine sn_bipush hx hb d_Mo_reckon_107 (by decide) (fun z102 hz102 => ?_)
              refine sn_icmp_ne (tgt := 120) hx hb d_Mo_reckon_109 (by decide) (fun b103 => ?_) (fun b103 => ?_)
              · refine lv_iload_n hx hb d_Mo_reckon_120 rfl (lv_at hl 2 rfl) ?_
                refine sn_bipush hx hb d_Mo_reckon_121 (by decide) (fun z104 hz104 => ?_)
                refine sn_icmp_ne (tgt := 134) hx hb d_Mo_reckon_123 (by decide) (fun b105 => ?_) (fun b105 => ?_)
                · refine lv_aload_n hx hb d_Mo_reckon_134 rfl (lv_at hl 1 rfl) ?_
                  refine lv_iload_n hx hb d_Mo_reckon_135 rfl (lv_at hl 4 rfl) ?_
                  refine sn_if_eq (tgt := 143) hx hb d_Mo_reckon_136 (by decide) (fun b106 => ?_) (fun b106 => ?_)
                  · refine sn_iconst hx hb d_Mo_reckon_143 (by decide) (fun z107 hz107 => ?_)
                    refine sn_iconst hx hb d_Mo_reckon_144 (by decide) (fun z108 hz108 => ?_)
                    refine tz_call (A1 := ga (adM a) H.size) (tz_runV (C := "StoryMachineModel") (As := [.int z107, .int z108]) (rest := []) ⟨hx, hb, hml, hown, hts⟩ (c_Mo_good l hfl dC dI cI cJ a H.size th tr dp zi co sh lt ts mf z107 z108 hok (by omega) (by omega) (by omega) (by omega)) (tx_cb (n := 2) hts rfl rfl ⟨Nat.le_of_ble_eq_true rfl, Nat.le_of_ble_eq_true rfl⟩ (tx_code.of (hts _ mw_1240)) (hts _ mw_12) (by decide +kernel) (hts _ mw_1237)) (hts _ mw_1239) (hts _ ms_Mo_good) ⟨tz_blind, sv_recv (q0 := 0) hts in_Mo hK hI kM_0 rfl, fun U hU hW => ⟨rfl, by rw [hU], by rw [hU]; exact hI.1, va_K.moved hW.alike hK, hst _ _ hI.2 U hU hW⟩⟩ rfl rfl hl.1 rfl (lv_room (Nat.le_of_ble_eq_true rfl)) d_Mo_reckon_145 ⟨Nat.le_of_ble_eq_true rfl, Nat.le_of_ble_eq_true rfl⟩) hI.2 (fun q _ h => ga_sub hAC hA0 hI.2 q h) (ga_sub hAC hA0 hI.2) (fun v t H1 locs1 ht hWt hpost _ _ hS => ?_) (fun x t H1 locs1 ht hWt hpost _ _ hS => (hpost.2 x rfl).elim)
                    rcases hpost.1 _ rfl with ⟨z109, t_tr110, hv, c111, c111_0, c111_1, c111_2, c111_3, hI1⟩ | ⟨z112, hv, c113, c113_0, c113_1, c113_2, c113_3, hI1⟩
                    · cases hv
                      have hI : sI (dC, dI) vcl cI cJ (gsM a th t_tr110 dp zi co sh lt ts mf) A s.heap H1 locs1 := ⟨by rw [← ht]; exact hI1, hS⟩
                      obtain ⟨-, ⟨o114, o115⟩, -, -, -, -, -, -, -⟩ := id c111
                      clear hpost hI1 hS ht hWt
                      revert hI; generalize H1 = H; generalize locs1 = locs; intro hI
                      refine sn_if_eq (tgt := 180) hx hb d_Mo_reckon_148 (by decide) (fun b116 => ?_) (fun b116 => ?_)
                      · exact j180p _ _ _ z89 t_tr110 hI c111 (by omega) (by omega) (by omega) (by omega) (lv_sub hl [1, 2, 3, 4, 0] rfl)
                      · omega
                    · omega
                  · refine sn_iconst hx hb d_Mo_reckon_139 (by decide) (fun z117 hz117 => ?_)
                    refine lv_goto (tgt := 144) hx hb d_Mo_reckon_140 (by decide) ?_
                    refine sn_iconst hx hb d_Mo_reckon_144 (by decide) (fun z118 hz118 => ?_)
                    refine tz_call (A1 := ga (adM a) H.size) (tz_runV (C := "StoryMachineModel") (As := [.int z117, .int z118]) (rest := []) ⟨hx, hb, hml, hown, hts⟩ (c_Mo_good l hfl dC dI cI cJ a H.size th tr dp zi co sh lt ts mf z117 z118 hok (by omega) (by omega) (by omega) (by omega)) (tx_cb (n := 2) hts rfl rfl ⟨Nat.le_of_ble_eq_true rfl, Nat.le_of_ble_eq_true rfl⟩ (tx_code.of (hts _ mw_1240)) (hts _ mw_12) (by decide +kernel) (hts _ mw_1237)) (hts _ mw_1239) (hts _ ms_Mo_good) ⟨tz_blind, sv_recv (q0 := 0) hts in_Mo hK hI kM_0 rfl, fun U hU hW => ⟨rfl, by rw [hU], by rw [hU]; exact hI.1, va_K.moved hW.alike hK, hst _ _ hI.2 U hU hW⟩⟩ rfl rfl hl.1 rfl (lv_room (Nat.le_of_ble_eq_true rfl)) d_Mo_reckon_145 ⟨Nat.le_of_ble_eq_true rfl, Nat.le_of_ble_eq_true rfl⟩) hI.2 (fun q _ h => ga_sub hAC hA0 hI.2 q h) (ga_sub hAC hA0 hI.2) (fun v t H1 locs1 ht hWt hpost _ _ hS => ?_) (fun x t H1 locs1 ht hWt hpost _ _ hS => (hpost.2 x rfl).elim)
                    rcases hpost.1 _ rfl with ⟨z119, t_tr120, hv, c121, c121_0, c121_1, c121_2, c121_3, hI1⟩ | ⟨z122, hv, c123, c123_0, c123_1, c123_2, c123_3, hI1⟩
                    · cases hv
                      have hI : sI (dC, dI) vcl cI cJ (gsM a th t_tr120 dp zi co sh lt ts mf) A s.heap H1 locs1 := ⟨by rw [← ht]; exact hI1, hS⟩
                      obtain ⟨-, ⟨o124, o125⟩, -, -, -, -, -, -, -⟩ := id c121
                      clear hpost hI1 hS ht hWt
                      revert hI; generalize H1 = H; generalize locs1 = locs; intro hI
                      refine sn_if_eq (tgt := 180) hx hb d_Mo_reckon_148 (by decide) (fun b126 => ?_) (fun b126 => ?_)
                      · exact j180p _ _ _ z89 t_tr120 hI c121 (by omega) (by omega) (by omega) (by omega) (lv_sub hl [1, 2, 3, 4, 0] rfl)
                      · omega
                    · cases hv
                      have hI : sI (dC, dI) vcl cI cJ (gsM a th tr dp zi co sh lt ts mf) A s.heap H1 locs1 := ⟨by rw [← ht]; exact hI1, hS⟩
                      clear hpost hI1 hS ht hWt
                      revert hI; generalize H1 = H; generalize locs1 = locs; intro hI
                      refine sn_if_eq (tgt := 180) hx hb d_Mo_reckon_148 (by decide) (fun b127 => ?_) (fun b127 => ?_)
                      · omega
                      · refine lv_iload_n hx hb d_Mo_reckon_151 rfl (lv_at hl 2 rfl) ?_
                        refine sn_bipush hx hb d_Mo_reckon_152 (by decide) (fun z128 hz128 => ?_)
                        refine sn_icmp_ne (tgt := 169) hx hb d_Mo_reckon_154 (by decide) (fun b129 => ?_) (fun b129 => ?_)
                        · refine lv_iload_n hx hb d_Mo_reckon_169 rfl (lv_at hl 3 rfl) ?_
                          refine tz_call (A1 := ga (adM a) H.size) (tz_runS (As := [.int x2]) (rest := []) ⟨hx, hb, hml, hown, hts⟩ (c_Mo_signed l hfl dC dI cI cJ a H.size th tr dp zi co sh lt ts mf x2 c123) (tx_cb (n := 1) hts rfl rfl ⟨Nat.le_of_ble_eq_true rfl, Nat.le_of_ble_eq_true rfl⟩ (tx_code.of (hts _ mw_1316)) (hts _ mw_12) (by decide +kernel) (hts _ mw_1314)) (hts _ mw_1315) ⟨tz_blind, fun U hU hW => ⟨rfl, by rw [hU], by rw [hU]; exact hI.1, va_K.moved hW.alike hK, hst _ _ hI.2 U hU hW⟩⟩ rfl rfl hl.1 rfl (lv_room (Nat.le_of_ble_eq_true rfl)) d_Mo_reckon_170 ⟨Nat.le_of_ble_eq_true rfl, Nat.le_of_ble_eq_true rfl⟩) hI.2 (fun q _ h => ga_sub hAC hA0 hI.2 q h) (ga_sub hAC hA0 hI.2) (fun v t H1 locs1 ht hWt hpost _ _ hS => ?_) (fun x t H1 locs1 ht hWt hpost _ _ hS => (hpost.2 x rfl).elim)
                          rcases hpost.1 _ rfl with ⟨z130, hv, c131, c131_0, c131_1, c131_2, hI1⟩
                          cases hv
                          have hI : sI (dC, dI) vcl cI cJ (gsM a th tr dp zi co sh lt ts mf) A s.heap H1 locs1 := ⟨by rw [← ht]; exact hI1, hS⟩
                          clear hpost hI1 hS ht hWt
                          revert hI; generalize H1 = H; generalize locs1 = locs; intro hI
                          refine lv_iload_n hx hb d_Mo_reckon_173 rfl (lv_at hl 4 rfl) ?_
                          refine tz_call (A1 := ga (adM a) H.size) (tz_runS (As := [.int x3]) (rest := [.int z130]) ⟨hx, hb, hml, hown, hts⟩ (c_Mo_signed l hfl dC dI cI cJ a H.size th tr dp zi co sh lt ts mf x3 c131) (tx_cb (n := 1) hts rfl rfl ⟨Nat.le_of_ble_eq_true rfl, Nat.le_of_ble_eq_true rfl⟩ (tx_code.of (hts _ mw_1316)) (hts _ mw_12) (by decide +kernel) (hts _ mw_1314)) (hts _ mw_1315) ⟨tz_blind, fun U hU hW => ⟨rfl, by rw [hU], by rw [hU]; exact hI.1, va_K.moved hW.alike hK, hst _ _ hI.2 U hU hW⟩⟩ rfl rfl hl.1 rfl (lv_room (Nat.le_of_ble_eq_true rfl)) d_Mo_reckon_174 ⟨Nat.le_of_ble_eq_true rfl, Nat.le_of_ble_eq_true rfl⟩) hI.2 (fun q _ h => ga_sub hAC hA0 hI.2 q h) (ga_sub hAC hA0 hI.2) (fun v t H1 locs1 ht hWt hpost _ _ hS => ?_) (fun x t H1 locs1 ht hWt hpost _ _ hS => (hpost.2 x rfl).elim)
                          rcases hpost.1 _ rfl with ⟨z132, hv, c133, c133_0, c133_1, c133_2, hI1⟩
                          cases hv
                          have hI : sI (dC, dI) vcl cI cJ (gsM a th tr dp zi co sh lt ts mf) A s.heap H1 locs1 := ⟨by rw [← ht]; exact hI1, hS⟩
                          clear hpost hI1 hS ht hWt
                          revert hI; generalize H1 = H; generalize locs1 = locs; intro hI
                          refine sn_iremT hx hb d_Mo_reckon_177 (by omega) (fun z134 hz134a hz134b => ?_)
                          refine lv_istore (lv' := [(4, .int z134), (0, .ref (a 0)), (1, .int x1), (2, .int x2), (3, .int x3)]) hx hb d_Mo_reckon_178 hl (by decide) rfl (fun ls hl => ?_)
                          exact j180z _ _ _ z134 hI c133 (by omega) (by omega) (by omega) (lv_sub hl [1, 2, 3, 4, 0] rfl)
                        · refine lv_iload_n hx hb d_Mo_reckon_157 rfl (lv_at hl 3 rfl) ?_
                          refine tz_call (A1 := ga (adM a) H.size) (tz_runS (As := [.int x2]) (rest := []) ⟨hx, hb, hml, hown, hts⟩ (c_Mo_signed l hfl dC dI cI cJ a H.size th tr dp zi co sh lt ts mf x2 c123) (tx_cb (n := 1) hts rfl rfl ⟨Nat.le_of_ble_eq_true rfl, Nat.le_of_ble_eq_true rfl⟩ (tx_code.of (hts _ mw_1316)) (hts _ mw_12) (by decide +kernel) (hts _ mw_1314)) (hts _ mw_1315) ⟨tz_blind, fun U hU hW => ⟨rfl, by rw [hU], by rw [hU]; exact hI.1, va_K.moved hW.alike hK, hst _ _ hI.2 U hU hW⟩⟩ rfl rfl hl.1 rfl (lv_room (Nat.le_of_ble_eq_true rfl)) d_Mo_reckon_158 ⟨Nat.le_of_ble_eq_true rfl, Nat.le_of_ble_eq_true rfl⟩) hI.2 (fun q _ h => ga_sub hAC hA0 hI.2 q h) (ga_sub hAC hA0 hI.2) (fun v t H1 locs1 ht hWt hpost _ _ hS => ?_) (fun x t H1 locs1 ht hWt hpost _ _ hS => (hpost.2 x rfl).elim)
                          rcases hpost.1 _ rfl with ⟨z135, hv, c136, c136_0, c136_1, c136_2, hI1⟩
                          cases hv
                          have hI : sI (dC, dI) vcl cI cJ (gsM a th tr dp zi co sh lt ts mf) A s.heap H1 locs1 := ⟨by rw [← ht]; exact hI1, hS⟩
                          clear hpost hI1 hS ht hWt
                          revert hI; generalize H1 = H; generalize locs1 = locs; intro hI
                          refine lv_iload_n hx hb d_Mo_reckon_161 rfl (lv_at hl 4 rfl) ?_
                          refine tz_call (A1 := ga (adM a) H.size) (tz_runS (As := [.int x3]) (rest := [.int z135]) ⟨hx, hb, hml, hown, hts⟩ (c_Mo_signed l hfl dC dI cI cJ a H.size th tr dp zi co sh lt ts mf x3 c136) (tx_cb (n := 1) hts rfl rfl ⟨Nat.le_of_ble_eq_true rfl, Nat.le_of_ble_eq_true rfl⟩ (tx_code.of (hts _ mw_1316)) (hts _ mw_12) (by decide +kernel) (hts _ mw_1314)) (hts _ mw_1315) ⟨tz_blind, fun U hU hW => ⟨rfl, by rw [hU], by rw [hU]; exact hI.1, va_K.moved hW.alike hK, hst _ _ hI.2 U hU hW⟩⟩ rfl rfl hl.1 rfl (lv_room (Nat.le_of_ble_eq_true rfl)) d_Mo_reckon_162 ⟨Nat.le_of_ble_eq_true rfl, Nat.le_of_ble_eq_true rfl⟩) hI.2 (fun q _ h => ga_sub hAC hA0 hI.2 q h) (ga_sub hAC hA0 hI.2) (fun v t H1 locs1 ht hWt hpost _ _ hS => ?_) (fun x t H1 locs1 ht hWt hpost _ _ hS => (hpost.2 x rfl).elim)
                          rcases hpost.1 _ rfl with ⟨z137, hv, c138, c138_0, c138_1, c138_2, hI1⟩
                          cases hv
                          have hI : sI (dC, dI) vcl cI cJ (gsM a th tr dp zi co sh lt ts mf) A s.heap H1 locs1 := ⟨by rw [← ht]; exact hI1, hS⟩
                          clear hpost hI1 hS ht hWt
                          revert hI; generalize H1 = H; generalize locs1 = locs; intro hI
                          refine sn_idivT hx hb d_Mo_reckon_165 (by omega) (fun z139 hz139a hz139b => ?_)
                          refine lv_goto (tgt := 178) hx hb d_Mo_reckon_166 (by decide) ?_
                          refine lv_istore (lv' := [(4, .int z139), (0, .ref (a 0)), (1, .int x1), (2, .int x2), (3, .int x3)]) hx hb d_Mo_reckon_178 hl (by decide) rfl (fun ls hl => ?_)
                          exact j180z _ _ _ z139 hI c138 (by omega) (by omega) (by omega) (lv_sub hl [1, 2, 3, 4, 0] rfl)
                · refine lv_iload_n hx hb d_Mo_reckon_126 rfl (lv_at hl 3 rfl) ?_
                  refine lv_iload_n hx hb d_Mo_reckon_127 rfl (lv_at hl 4 rfl) ?_
                  refine sn_imulT hx hb d_Mo_reckon_128 (fun z140 hz140a hz140b => ?_)
                  refine lv_istore (lv' := [(4, .int z140), (0, .ref (a 0)), (1, .int x1), (2, .int x2), (3, .int x3)]) hx hb d_Mo_reckon_129 hl (by decide) rfl (fun ls hl => ?_)
                  refine lv_goto (tgt := 180) hx hb d_Mo_reckon_131 (by decide) ?_
                  exact j180u _ _ _ z140 hI hok (by omega) (by omega) (by omega) (by omega) (lv_sub hl [1, 2, 3, 4, 0] rfl)
              · refine lv_iload_n hx hb d_Mo_reckon_112 rfl (lv_at hl 3 rfl) ?_
                refine lv_iload_n hx hb d_Mo_reckon_113 rfl (lv_at hl 4 rfl) ?_
                refine sn_isub hx hb d_Mo_reckon_114 (by omega) (by omega) (fun z141 hz141 => ?_)
                refine lv_istore (lv' := [(4, .int z141), (0, .ref (a 0)), (1, .int x1), (2, .int x2), (3, .int x3)]) hx hb d_Mo_reckon_115 hl (by decide) rfl (fun ls hl => ?_)
                refine lv_goto (tgt := 180) hx hb d_Mo_reckon_117 (by decide) ?_
                exact j180u _ _ _ z141 hI hok (by omega) (by omega) (by omega) (by omega) (lv_sub hl [1, 2, 3, 4, 0] rfl)
            · refine lv_iload_n hx hb d_Mo_reckon_98 rfl (lv_at hl 3 rfl) ?_
              refine lv_iload_n hx hb d_Mo_reckon_99 rfl (lv_at hl 4 rfl) ?_
              refine sn_iadd hx hb d_Mo_reckon_100 (by omega) (by omega) (fun z142 hz142 => ?_)
              refine lv_istore (lv' := [(4, .int z142), (0, .ref (a 0)), (1, .int x1), (2, .int x2), (3, .int x3)]) hx hb d_Mo_reckon_101 hl (by decide) rfl (fun ls hl => ?_)
              refine lv_goto (tgt := 180) hx hb d_Mo_reckon_103 (by decide) ?_
              exact j180u _ _ _ z142 hI hok (by omega) (by omega) (by omega) (by omega) (lv_sub hl [1, 2, 3, 4, 0] rfl)
          · refine lv_aload_n hx hb d_Mo_reckon_81 rfl (lv_at hl 1 rfl) ?_
            refine lv_iload_n hx hb d_Mo_reckon_82 rfl (lv_at hl 3 rfl) ?_
            refine lv_iload_n hx hb d_Mo_reckon_83 rfl (lv_at hl 4 rfl) ?_
            refine tz_call (A1 := ga (adM a) H.size) (tz_runV (C := "StoryMachineModel") (As := [.int x2, .int x3]) (rest := []) ⟨hx, hb, hml, hown, hts⟩ (c_Mo_propertyBehind l hfl dC dI cI cJ a H.size th tr dp zi co sh lt ts mf x2 x3 hok) (tx_cb (n := 2) hts rfl rfl ⟨Nat.le_of_ble_eq_true rfl, Nat.le_of_ble_eq_true rfl⟩ (tx_code.of (hts _ mw_1385)) (hts _ mw_12) (by decide +kernel) (hts _ mw_1382)) (hts _ mw_1384) (hts _ ms_Mo_propertyBehind) ⟨tz_blind, sv_recv (q0 := 0) hts in_Mo hK hI kM_0 rfl, fun U hU hW => ⟨rfl, by rw [hU], by rw [hU]; exact hI.1, va_K.moved hW.alike hK, hst _ _ hI.2 U hU hW⟩⟩ rfl rfl hl.1 rfl (lv_room (Nat.le_of_ble_eq_true rfl)) d_Mo_reckon_84 ⟨Nat.le_of_ble_eq_true rfl, Nat.le_of_ble_eq_true rfl⟩) hI.2 (fun q _ h => ga_sub hAC hA0 hI.2 q h) (ga_sub hAC hA0 hI.2) (fun v t H1 locs1 ht hWt hpost _ _ hS => ?_) (fun x t H1 locs1 ht hWt hpost _ _ hS => (hpost.2 x rfl).elim)
            rcases hpost.1 _ rfl with ⟨z143, t_tr144, hv, c145, c145_0, c145_1, c145_2, hI1⟩ | ⟨z146, hv, c147, c147_0, c147_1, c147_2, c147_3, c147_4, hI1⟩
            · cases hv
              have hI : sI (dC, dI) vcl cI cJ (gsM a th t_tr144 dp zi co sh lt ts mf) A s.heap H1 locs1 := ⟨by rw [← ht]; exact hI1, hS⟩
              obtain ⟨-, ⟨o148, o149⟩, -, -, -, -, -, -, -⟩ := id c145
              clear hpost hI1 hS ht hWt
              revert hI; generalize H1 = H; generalize locs1 = locs; intro hI
              refine lv_istore (lv' := [(4, .int z143), (0, .ref (a 0)), (1, .int x1), (2, .int x2), (3, .int x3)]) hx hb d_Mo_reckon_87 hl (by decide) rfl (fun ls hl => ?_)
              refine lv_goto (tgt := 180) hx hb d_Mo_reckon_89 (by decide) ?_
              exact j180p _ _ _ z143 t_tr144 hI c145 (by omega) (by omega) (by omega) (by omega) (lv_sub hl [1, 2, 3, 4, 0] rfl)
            · cases hv
              have hI : sI (dC, dI) vcl cI cJ (gsM a th tr dp zi co sh lt ts mf) A s.heap H1 locs1 := ⟨by rw [← ht]; exact hI1, hS⟩
              clear hpost hI1 hS ht hWt
              revert hI; generalize H1 = H; generalize locs1 = locs; intro hI
              refine lv_istore (lv' := [(4, .int z146), (0, .ref (a 0)), (1, .int x1), (2, .int x2), (3, .int x3)]) hx hb d_Mo_reckon_87 hl (by decide) rfl (fun ls hl => ?_)
              refine lv_goto (tgt := 180) hx hb d_Mo_reckon_89 (by decide) ?_
              exact j180z _ _ _ z146 hI c147 (by omega) (by omega) (by omega) (lv_sub hl [1, 2, 3, 4, 0] rfl)
        · refine lv_aload_n hx hb d_Mo_reckon_64 rfl (lv_at hl 1 rfl) ?_
          refine lv_iload_n hx hb d_Mo_reckon_65 rfl (lv_at hl 3 rfl) ?_
          refine lv_iload_n hx hb d_Mo_reckon_66 rfl (lv_at hl 4 rfl) ?_
          refine tz_call (A1 := ga (adM a) H.size) (tz_runV (C := "StoryMachineModel") (As := [.int x2, .int x3]) (rest := []) ⟨hx, hb, hml, hown, hts⟩ (c_Mo_bytesOf l hfl dC dI cI cJ a H.size th tr dp zi co sh lt ts mf x2 x3 hok) (tx_cb (n := 2) hts rfl rfl ⟨Nat.le_of_ble_eq_true rfl, Nat.le_of_ble_eq_true rfl⟩ (tx_code.of (hts _ mw_1369)) (hts _ mw_12) (by decide +kernel) (hts _ mw_1366)) (hts _ mw_1368) (hts _ ms_Mo_bytesOf) ⟨tz_blind, sv_recv (q0 := 0) hts in_Mo hK hI kM_0 rfl, fun U hU hW => ⟨rfl, by rw [hU], by rw [hU]; exact hI.1, va_K.moved hW.alike hK, hst _ _ hI.2 U hU hW⟩⟩ rfl rfl hl.1 rfl (lv_room (Nat.le_of_ble_eq_true rfl)) d_Mo_reckon_67 ⟨Nat.le_of_ble_eq_true rfl, Nat.le_of_ble_eq_true rfl⟩) hI.2 (fun q _ h => ga_sub hAC hA0 hI.2 q h) (ga_sub hAC hA0 hI.2) (fun v t H1 locs1 ht hWt hpost _ _ hS => ?_) (fun x t H1 locs1 ht hWt hpost _ _ hS => (hpost.2 x rfl).elim)
          rcases hpost.1 _ rfl with ⟨z150, t_tr151, hv, c152, c152_0, c152_1, c152_2, hI1⟩ | ⟨z153, hv, c154, c154_0, c154_1, c154_2, c154_3, c154_4, hI1⟩
          · cases hv
            have hI : sI (dC, dI) vcl cI cJ (gsM a th t_tr151 dp zi co sh lt ts mf) A s.heap H1 locs1 := ⟨by rw [← ht]; exact hI1, hS⟩
            obtain ⟨-, ⟨o155, o156⟩, -, -, -, -, -, -, -⟩ := id c152
            clear hpost hI1 hS ht hWt
            revert hI; generalize H1 = H; generalize locs1 = locs; intro hI
            refine lv_istore (lv' := [(4, .int z150), (0, .ref (a 0)), (1, .int x1), (2, .int x2), (3, .int x3)]) hx hb d_Mo_reckon_70 hl (by decide) rfl (fun ls hl => ?_)
            refine lv_goto (tgt := 180) hx hb d_Mo_reckon_72 (by decide) ?_
            exact j180p _ _ _ z150 t_tr151 hI c152 (by omega) (by omega) (by omega) (by omega) (lv_sub hl [1, 2, 3, 4, 0] rfl)
          · cases hv
            have hI : sI (dC, dI) vcl cI cJ (gsM a th tr dp zi co sh lt ts mf) A s.heap H1 locs1 := ⟨by rw [← ht]; exact hI1, hS⟩
            clear hpost hI1 hS ht hWt
            revert hI; generalize H1 = H; generalize locs1 = locs; intro hI
            refine lv_istore (lv' := [(4, .int z153), (0, .ref (a 0)), (1, .int x1), (2, .int x2), (3, .int x3)]) hx hb d_Mo_reckon_70 hl (by decide) rfl (fun ls hl => ?_)
            refine lv_goto (tgt := 180) hx hb d_Mo_reckon_72 (by decide) ?_
            exact j180z _ _ _ z153 hI c154 (by omega) (by omega) (by omega) (lv_sub hl [1, 2, 3, 4, 0] rfl)
      · refine lv_aload_n hx hb d_Mo_reckon_47 rfl (lv_at hl 1 rfl) ?_
        refine lv_iload_n hx hb d_Mo_reckon_48 rfl (lv_at hl 3 rfl) ?_
        refine lv_iload_n hx hb d_Mo_reckon_49 rfl (lv_at hl 4 rfl) ?_
        refine tz_call (A1 := ga (adM a) H.size) (tz_runV (C := "StoryMachineModel") (As := [.int x2, .int x3]) (rest := []) ⟨hx, hb, hml, hown, hts⟩ (c_Mo_property l hfl dC dI cI cJ a H.size th tr dp zi co sh lt ts mf x2 x3 hok) (tx_cb (n := 2) hts rfl rfl ⟨Nat.le_of_ble_eq_true rfl, Nat.le_of_ble_eq_true rfl⟩ (tx_code.of (hts _ mw_1365)) (hts _ mw_12) (by decide +kernel) (hts _ mw_1362)) (hts _ mw_1364) (hts _ ms_Mo_property) ⟨tz_blind, sv_recv (q0 := 0) hts in_Mo hK hI kM_0 rfl, fun U hU hW => ⟨rfl, by rw [hU], by rw [hU]; exact hI.1, va_K.moved hW.alike hK, hst _ _ hI.2 U hU hW⟩⟩ rfl rfl hl.1 rfl (lv_room (Nat.le_of_ble_eq_true rfl)) d_Mo_reckon_50 ⟨Nat.le_of_ble_eq_true rfl, Nat.le_of_ble_eq_true rfl⟩) hI.2 (fun q _ h => ga_sub hAC hA0 hI.2 q h) (ga_sub hAC hA0 hI.2) (fun v t H1 locs1 ht hWt hpost _ _ hS => ?_) (fun x t H1 locs1 ht hWt hpost _ _ hS => (hpost.2 x rfl).elim)
        rcases hpost.1 _ rfl with ⟨z157, t_tr158, hv, c159, c159_0, c159_1, c159_2, hI1⟩ | ⟨z160, hv, c161, c161_0, c161_1, c161_2, c161_3, c161_4, hI1⟩
        · cases hv
          have hI : sI (dC, dI) vcl cI cJ (gsM a th t_tr158 dp zi co sh lt ts mf) A s.heap H1 locs1 := ⟨by rw [← ht]; exact hI1, hS⟩
          obtain ⟨-, ⟨o162, o163⟩, -, -, -, -, -, -, -⟩ := id c159
          clear hpost hI1 hS ht hWt
          revert hI; generalize H1 = H; generalize locs1 = locs; intro hI
          refine lv_istore (lv' := [(4, .int z157), (0, .ref (a 0)), (1, .int x1), (2, .int x2), (3, .int x3)]) hx hb d_Mo_reckon_53 hl (by decide) rfl (fun ls hl => ?_)
          refine lv_goto (tgt := 180) hx hb d_Mo_reckon_55 (by decide) ?_
          exact j180p _ _ _ z157 t_tr158 hI c159 (by omega) (by omega) (by omega) (by omega) (lv_sub hl [1, 2, 3, 4, 0] rfl)
        · cases hv
          have hI : sI (dC, dI) vcl cI cJ (gsM a th tr dp zi co sh lt ts mf) A s.heap H1 locs1 := ⟨by rw [← ht]; exact hI1, hS⟩
          clear hpost hI1 hS ht hWt
          revert hI; generalize H1 = H; generalize locs1 = locs; intro hI
          refine lv_istore (lv' := [(4, .int z160), (0, .ref (a 0)), (1, .int x1), (2, .int x2), (3, .int x3)]) hx hb d_Mo_reckon_53 hl (by decide) rfl (fun ls hl => ?_)
          refine lv_goto (tgt := 180) hx hb d_Mo_reckon_55 (by decide) ?_
          exact j180z _ _ _ z160 hI c161 (by omega) (by omega) (by omega) (lv_sub hl [1, 2, 3, 4, 0] rfl)
    · refine lv_aload_n hx hb d_Mo_reckon_29 rfl (lv_at hl 1 rfl) ?_
      refine lv_iload_n hx hb d_Mo_reckon_30 rfl (lv_at hl 3 rfl) ?_
      refine lv_iload_n hx hb d_Mo_reckon_31 rfl (lv_at hl 4 rfl) ?_
      refine sn_iadd hx hb d_Mo_reckon_32 (by omega) (by omega) (fun z164 hz164 => ?_)
      refine tz_call (A1 := ga (adM a) H.size) (tz_runV (C := "StoryMachineModel") (As := [.int z164]) (rest := []) ⟨hx, hb, hml, hown, hts⟩ (c_Mo_byteAt l hfl dC dI cI cJ a H.size th tr dp zi co sh lt ts mf z164 hok) (tx_cb (n := 1) hts rfl rfl ⟨Nat.le_of_ble_eq_true rfl, Nat.le_of_ble_eq_true rfl⟩ (tx_code.of (hts _ mw_1236)) (hts _ mw_12) (by decide +kernel) (hts _ mw_1233)) (hts _ mw_1235) (hts _ ms_Mo_byteAt) ⟨tz_blind, sv_recv (q0 := 0) hts in_Mo hK hI kM_0 rfl, fun U hU hW => ⟨rfl, by rw [hU], by rw [hU]; exact hI.1, va_K.moved hW.alike hK, hst _ _ hI.2 U hU hW⟩⟩ rfl rfl hl.1 rfl (lv_room (Nat.le_of_ble_eq_true rfl)) d_Mo_reckon_33 ⟨Nat.le_of_ble_eq_true rfl, Nat.le_of_ble_eq_true rfl⟩) hI.2 (fun q _ h => ga_sub hAC hA0 hI.2 q h) (ga_sub hAC hA0 hI.2) (fun v t H1 locs1 ht hWt hpost _ _ hS => ?_) (fun x t H1 locs1 ht hWt hpost _ _ hS => (hpost.2 x rfl).elim)
      rcases hpost.1 _ rfl with ⟨z165, t_tr166, hv, c167, c167_0, c167_1, c167_2, hI1⟩ | ⟨z168, hv, c169, c169_0, c169_1, c169_2, c169_3, c169_4, hI1⟩
      · cases hv
        have hI : sI (dC, dI) vcl cI cJ (gsM a th t_tr166 dp zi co sh lt ts mf) A s.heap H1 locs1 := ⟨by rw [← ht]; exact hI1, hS⟩
        obtain ⟨-, ⟨o170, o171⟩, -, -, -, -, -, -, -⟩ := id c167
        clear hpost hI1 hS ht hWt
        revert hI; generalize H1 = H; generalize locs1 = locs; intro hI
        refine lv_istore (lv' := [(4, .int z165), (0, .ref (a 0)), (1, .int x1), (2, .int x2), (3, .int x3)]) hx hb d_Mo_reckon_36 hl (by decide) rfl (fun ls hl => ?_)
        refine lv_goto (tgt := 180) hx hb d_Mo_reckon_38 (by decide) ?_
        exact j180p _ _ _ z165 t_tr166 hI c167 (by omega) (by omega) (by omega) (by omega) (lv_sub hl [1, 2, 3, 4, 0] rfl)
      · cases hv
        have hI : sI (dC, dI) vcl cI cJ (gsM a th tr dp zi co sh lt ts mf) A s.heap H1 locs1 := ⟨by rw [← ht]; exact hI1, hS⟩
        clear hpost hI1 hS ht hWt
        revert hI; generalize H1 = H; generalize locs1 = locs; intro hI
        refine lv_istore (lv' := [(4, .int z168), (0, .ref (a 0)), (1, .int x1), (2, .int x2), (3, .int x3)]) hx hb d_Mo_reckon_36 hl (by decide) rfl (fun ls hl => ?_)
        refine lv_goto (tgt := 180) hx hb d_Mo_reckon_38 (by decide) ?_
        exact j180z _ _ _ z168 hI c169 (by omega) (by omega) (by omega) (lv_sub hl [1, 2, 3, 4, 0] rfl)
  · refine lv_aload_n hx hb d_Mo_reckon_9 rfl (lv_at hl 1 rfl) ?_
    refine lv_iload_n hx hb d_Mo_reckon_10 rfl (lv_at hl 3 rfl) ?_
    refine sn_iconst hx hb d_Mo_reckon_11 (by decide) (fun z172 hz172 => ?_)
    refine lv_iload_n hx hb d_Mo_reckon_12 rfl (lv_at hl 4 rfl) ?_
    refine sn_imulL (k := 2) hx hb d_Mo_reckon_13 (by omega) (by omega) (by omega) (fun z173 hz173 => ?_)
    refine sn_iadd hx hb d_Mo_reckon_14 (by omega) (by omega) (fun z174 hz174 => ?_)
    refine tz_call (A1 := ga (adM a) H.size) (tz_runV (C := "StoryMachineModel") (As := [.int z174]) (rest := []) ⟨hx, hb, hml, hown, hts⟩ (c_Mo_wordAt l hfl dC dI cI cJ a H.size th tr dp zi co sh lt ts mf z174 hok) (tx_cb (n := 1) hts rfl rfl ⟨Nat.le_of_ble_eq_true rfl, Nat.le_of_ble_eq_true rfl⟩ (tx_code.of (hts _ mw_1252)) (hts _ mw_12) (by decide +kernel) (hts _ mw_1249)) (hts _ mw_1251) (hts _ ms_Mo_wordAt) ⟨tz_blind, sv_recv (q0 := 0) hts in_Mo hK hI kM_0 rfl, fun U hU hW => ⟨rfl, by rw [hU], by rw [hU]; exact hI.1, va_K.moved hW.alike hK, hst _ _ hI.2 U hU hW⟩⟩ rfl rfl hl.1 rfl (lv_room (Nat.le_of_ble_eq_true rfl)) d_Mo_reckon_15 ⟨Nat.le_of_ble_eq_true rfl, Nat.le_of_ble_eq_true rfl⟩) hI.2 (fun q _ h => ga_sub hAC hA0 hI.2 q h) (ga_sub hAC hA0 hI.2) (fun v t H1 locs1 ht hWt hpost _ _ hS => ?_) (fun x t H1 locs1 ht hWt hpost _ _ hS => (hpost.2 x rfl).elim)
    rcases hpost.1 _ rfl with ⟨z175, t_tr176, hv, c177, c177_0, c177_1, c177_2, hI1⟩ | ⟨z178, hv, c179, c179_0, c179_1, c179_2, c179_3, c179_4, hI1⟩
    · cases hv
      have hI : sI (dC, dI) vcl cI cJ (gsM a th t_tr176 dp zi co sh lt ts mf) A s.heap H1 locs1 := ⟨by rw [← ht]; exact hI1, hS⟩
      obtain ⟨-, ⟨o180, o181⟩, -, -, -, -, -, -, -⟩ := id c177
      clear hpost hI1 hS ht hWt
      revert hI; generalize H1 = H; generalize locs1 = locs; intro hI
      refine lv_istore (lv' := [(4, .int z175), (0, .ref (a 0)), (1, .int x1), (2, .int x2), (3, .int x3)]) hx hb d_Mo_reckon_18 hl (by decide) rfl (fun ls hl => ?_)
      refine lv_goto (tgt := 180) hx hb d_Mo_reckon_20 (by decide) ?_
      exact j180p _ _ _ z175 t_tr176 hI c177 (by omega) (by omega) (by omega) (by omega) (lv_sub hl [1, 2, 3, 4, 0] rfl)
    · cases hv
      have hI : sI (dC, dI) vcl cI cJ (gsM a th tr dp zi co sh lt ts mf) A s.heap H1 locs1 := ⟨by rw [← ht]; exact hI1, hS⟩
      clear hpost hI1 hS ht hWt
      revert hI; generalize H1 = H; generalize locs1 = locs; intro hI
      refine lv_istore (lv' := [(4, .int z178), (0, .ref (a 0)), (1, .int x1), (2, .int x2), (3, .int x3)]) hx hb d_Mo_reckon_18 hl (by decide) rfl (fun ls hl => ?_)
      refine lv_goto (tgt := 180) hx hb d_Mo_reckon_20 (by decide) ?_
      exact j180z _ _ _ z178 hI c179 (by omega) (by omega) (by omega) (lv_sub hl [1, 2, 3, 4, 0] rfl)
