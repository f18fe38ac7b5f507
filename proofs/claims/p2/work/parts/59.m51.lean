abbrev q_Mo_none (dC : Nat → ClassId) (dI : Nat → Nat → Nat) (cI cJ : ClassId) (a : Nat → Nat) (th tr dp zi co sh lt ts : Int) (mf : Nat → Int32) (x1 : Int32) : Outcome → State → Prop := fun o t => (∀ v, o = .returned v → ((∃ (tr_ dp_ zi_ sh_ : Int) (mf_ : Nat → Int32), v = none ∧ okM th tr_ dp_ zi_ co sh_ lt ts mf_ ∧ (x1.toInt ≤ 11) ∧ (1 ≤ tr_) ∧ (sh_ ≤ sh + 1601) ∧ sh_I (dC, dI) vcl cI cJ (gsM a th tr_ dp_ zi_ co sh_ lt ts mf_) t.heap) ∨ (v = none ∧ okM th tr dp zi co sh lt ts mf ∧ (4 ≤ x1.toInt) ∧ sh_I (dC, dI) vcl cI cJ (gsM a th tr dp zi co sh lt ts mf) t.heap) ∨ (∃ (dp_ zi_ sh_ : Int) (mf_ : Nat → Int32), v = none ∧ okM th tr dp_ zi_ co sh_ lt ts mf_ ∧ (x1.toInt ≤ 11) ∧ (tr ≤ 0) ∧ (sh_ ≤ sh + 1601) ∧ sh_I (dC, dI) vcl cI cJ (gsM a th tr dp_ zi_ co sh_ lt ts mf_) t.heap))) ∧ (∀ x, o = .threw x → (False))
def rm_Mo_none : Room := { frames := 8, cells := 0, slots := 0, locals := 173 }
set_option maxHeartbeats 4000000 in
set_option maxRecDepth 100000 in
theorem c_Mo_none (l : Launch) (hfl : l.flags = pinnedFlags ++ [noTraceFlag]) (dC : Nat → ClassId) (dI : Nat → Nat → Nat) (cI cJ : ClassId) (a : Nat → Nat) (sz : Nat) (th tr dp zi co sh lt ts : Int) (mf : Nat → Int32) (x1 : Int32) (hok : okM th tr dp zi co sh lt ts mf) (hp0 : 0 ≤ x1.toInt) (hp1 : x1.toInt ≤ 15) (hp2 : sh ≤ 1999998399) : tz_Met l ⟨"StoryMachineModel", "none", "(I)V"⟩ tw_tbl rm_Mo_none (tzP (dC, dI) vcl cI cJ (gsM a th tr dp zi co sh lt ts mf) a (adM a) [.ref (a 0), .int x1] sz) (tq_Q (q_Mo_none dC dI cI cJ a th tr dp zi co sh lt ts mf x1) (ga (adM a) sz)) 0 0 0 0 (ga (adM a) sz) := by
  refine tz_ofW (cc := prog_13_method_54_code) (maxL := 2) (ret := none) (by decide) (tx_isM mw_1421) ?_
  intro p e s m args below meth c s₁ B hml hv
  obtain ⟨rfl, hsz, hI0, hK, hst0⟩ := hv
  have hx := B.exec
  have hb := B.bytes
  have hr := B.returns
  have hts := atoms_spec (ws := tw_tbl) B.pre
  have hown : s.vm.findClass "StoryMachineModel" = some m.cls := findClass_of_methodNamed B.named
  have hlocks := B.notSynchronized
  subst hsz
  have hst := fun (H : Heap) (locs : List Loc) (hS : va_S (ga (adM a) s.heap.size) s.heap H locs) (U : State) (hU : U.heap = H) (hW : s.WarmedH U.vm) => zS_all adM_map hI0 hst0 hS hU hW
  have hAC : ∀ q ∈ adM a, ga (adM a) s.heap.size q := fun q h => Or.inl h
  have hA0 : ∀ q, s.heap.size ≤ q → ga (adM a) s.heap.size q := fun q h => Or.inr h
  have hI : sI (dC, dI) vcl cI cJ (gsM a th tr dp zi co sh lt ts mf) (ga (adM a) s.heap.size) s.heap s.heap [] := ⟨hI0, va_S.rf⟩
  clear hI0 hst0
  have hl := lv_entry ([.ref (a 0), .int x1]) (n := 2) (Nat.le_of_ble_eq_true rfl)
  rw [lg_entry_eq]
  generalize (lg_sl ([.ref (a 0), .int x1]) ++ List.replicate (2 - (lg_sl ([.ref (a 0), .int x1])).length) Slot.unset).toArray = ls at hl ⊢
  have hl : lv_has ls 2 [(0, .ref (a 0)), (1, .int x1)] := hl
  generalize hZ : tz_MQ below (tq_Q (q_Mo_none dC dI cI cJ a th tr dp zi co sh lt ts mf x1) (ga (adM a) s.heap.size)) ([.ref (a 0), .int x1] : List Value).toArray s 0 0 0 0 (ga (adM a) s.heap.size) = Z
  obtain ⟨A, hAe⟩ : ∃ A, A = ga (adM a) s.heap.size := ⟨_, rfl⟩
  rw [← hAe] at hst hAC hA0 hI hZ
  refine sv_start hI (fun H locs hI => ?_)
  obtain ⟨⟨o1, o2⟩, ⟨o3, o4⟩, ⟨o5, o6⟩, ⟨o7, o8⟩, ⟨o9, o10⟩, ⟨o11, o12⟩, ⟨o13, o14⟩, ⟨o15, o16⟩, -⟩ := id hok
  have gx1 := sn_rng x1
  have j117u : ∀ (H : Heap) (locs : List Loc) (ls : Array Slot), sI (dC, dI) vcl cI cJ (gsM a th tr dp zi co sh lt ts mf) A s.heap H locs → okM th tr dp zi co sh lt ts mf → 4 ≤ x1.toInt → sh ≤ sh + 1600 → lv_has ls 2 [(0, .ref (a 0)), (1, .int x1)] → W p l e (headSpec tw_tbl rm_Mo_none).room s m ([.ref (a 0), .int x1] : List Value).toArray below meth c H locs 0 0 Z (F0 m 117 ls []) := by
    intro H locs ls hI hok g117_0 g117_1 hl
    obtain ⟨⟨o17, o18⟩, ⟨o19, o20⟩, ⟨o21, o22⟩, ⟨o23, o24⟩, ⟨o25, o26⟩, ⟨o27, o28⟩, ⟨o29, o30⟩, ⟨o31, o32⟩, -⟩ := id hok
    refine lv_iload_n hx hb d_Mo_none_117 rfl (lv_at hl 1 rfl) ?_
    refine sn_iconst hx hb d_Mo_none_118 (by decide) (fun z33 hz33 => ?_)
    refine sn_icmp_ne (tgt := 140) hx hb d_Mo_none_119 (by decide) (fun b34 => ?_) (fun b34 => ?_)
    · subst hZ
      exact tz_ret (W.vret hx hb hr (fun t ht hW => ⟨⟨fun v9 hv9 => by cases hv9; exact (Or.inr (Or.inl ⟨rfl, hok, by omega, by rw [ht]; exact hI.1⟩)), fun x9 hx9 => (by cases hx9)⟩, hI.2.F ht⟩) hI.2.2.2 d_Mo_none_140)
    · omega
  have j117p : ∀ (H : Heap) (locs : List Loc) (ls : Array Slot) (t117p_tr t117p_dp t117p_zi t117p_sh : Int) (t117p_mf : Nat → Int32), sI (dC, dI) vcl cI cJ (gsM a th t117p_tr t117p_dp t117p_zi co t117p_sh lt ts t117p_mf) A s.heap H locs → okM th t117p_tr t117p_dp t117p_zi co t117p_sh lt ts t117p_mf → 1 ≤ t117p_tr → t117p_tr ≤ 4 → x1.toInt ≤ 11 → t117p_sh ≤ sh + 1600 → lv_has ls 2 [(0, .ref (a 0)), (1, .int x1)] → W p l e (headSpec tw_tbl rm_Mo_none).room s m ([.ref (a 0), .int x1] : List Value).toArray below meth c H locs 0 0 Z (F0 m 117 ls []) := by
    intro H locs ls t117p_tr t117p_dp t117p_zi t117p_sh t117p_mf hI hok g117_0 g117_1 g117_2 g117_3 hl
    obtain ⟨⟨o35, o36⟩, ⟨o37, o38⟩, ⟨o39, o40⟩, ⟨o41, o42⟩, ⟨o43, o44⟩, ⟨o45, o46⟩, ⟨o47, o48⟩, ⟨o49, o50⟩, -⟩ := id hok
    refine lv_iload_n hx hb d_Mo_none_117 rfl (lv_at hl 1 rfl) ?_
    refine sn_iconst hx hb d_Mo_none_118 (by decide) (fun z51 hz51 => ?_)
    refine sn_icmp_ne (tgt := 140) hx hb d_Mo_none_119 (by decide) (fun b52 => ?_) (fun b52 => ?_)
    · subst hZ
      exact tz_ret (W.vret hx hb hr (fun t ht hW => ⟨⟨fun v9 hv9 => by cases hv9; exact (Or.inl ⟨t117p_tr, t117p_dp, t117p_zi, t117p_sh, t117p_mf, rfl, hok, by omega, by omega, by omega, by rw [ht]; exact hI.1⟩), fun x9 hx9 => (by cases hx9)⟩, hI.2.F ht⟩) hI.2.2.2 d_Mo_none_140)
    · refine lv_aload_n hx hb d_Mo_none_122 rfl (lv_at hl 0 rfl) ?_
      refine sv_gete (C := "StoryMachineModel") (T := T_Mo) (N := 51) hx hb hts in_Mo hown hK hI 0 kM_0 rfl 25 (by decide) (hts _ mw_1088) rfl d_Mo_none_123 (fun z53 hz53 => ?_)
      refine sn_if_ne (tgt := 140) hx hb d_Mo_none_126 (by decide) (fun b54 => ?_) (fun b54 => ?_)
      · subst hZ
        exact tz_ret (W.vret hx hb hr (fun t ht hW => ⟨⟨fun v9 hv9 => by cases hv9; exact (Or.inl ⟨t117p_tr, t117p_dp, t117p_zi, t117p_sh, t117p_mf, rfl, hok, by omega, by omega, by omega, by rw [ht]; exact hI.1⟩), fun x9 hx9 => (by cases hx9)⟩, hI.2.F ht⟩) hI.2.2.2 d_Mo_none_140)
      · omega
  have j117z : ∀ (H : Heap) (locs : List Loc) (ls : Array Slot) (t117z_dp t117z_zi t117z_sh : Int) (t117z_mf : Nat → Int32), sI (dC, dI) vcl cI cJ (gsM a th tr t117z_dp t117z_zi co t117z_sh lt ts t117z_mf) A s.heap H locs → okM th tr t117z_dp t117z_zi co t117z_sh lt ts t117z_mf → tr ≤ 0 → x1.toInt ≤ 11 → t117z_sh ≤ sh + 1600 → lv_has ls 2 [(0, .ref (a 0)), (1, .int x1)] → W p l e (headSpec tw_tbl rm_Mo_none).room s m ([.ref (a 0), .int x1] : List Value).toArray below meth c H locs 0 0 Z (F0 m 117 ls []) := by
    intro H locs ls t117z_dp t117z_zi t117z_sh t117z_mf hI hok g117_0 g117_1 g117_2 hl
    obtain ⟨⟨o55, o56⟩, ⟨o57, o58⟩, ⟨o59, o60⟩, ⟨o61, o62⟩, ⟨o63, o64⟩, ⟨o65, o66⟩, ⟨o67, o68⟩, ⟨o69, o70⟩, -⟩ := id hok
    refine lv_iload_n hx hb d_Mo_none_117 rfl (lv_at hl 1 rfl) ?_
    refine sn_iconst hx hb d_Mo_none_118 (by decide) (fun z71 hz71 => ?_)
    refine sn_icmp_ne (tgt := 140) hx hb d_Mo_none_119 (by decide) (fun b72 => ?_) (fun b72 => ?_)
    · subst hZ
      exact tz_ret (W.vret hx hb hr (fun t ht hW => ⟨⟨fun v9 hv9 => by cases hv9; exact (Or.inr (Or.inr (⟨t117z_dp, t117z_zi, t117z_sh, t117z_mf, rfl, hok, by omega, by omega, by omega, by rw [ht]; exact hI.1⟩))), fun x9 hx9 => (by cases hx9)⟩, hI.2.F ht⟩) hI.2.2.2 d_Mo_none_140)
    · refine lv_aload_n hx hb d_Mo_none_122 rfl (lv_at hl 0 rfl) ?_
      refine sv_gete (C := "StoryMachineModel") (T := T_Mo) (N := 51) hx hb hts in_Mo hown hK hI 0 kM_0 rfl 25 (by decide) (hts _ mw_1088) rfl d_Mo_none_123 (fun z73 hz73 => ?_)
      refine sn_if_ne (tgt := 140) hx hb d_Mo_none_126 (by decide) (fun b74 => ?_) (fun b74 => ?_)
      · omega
      · refine lv_aload_n hx hb d_Mo_none_129 rfl (lv_at hl 0 rfl) ?_
        refine sn_bipush hx hb d_Mo_none_130 (by decide) (fun z75 hz75 => ?_)
        refine tz_call (A1 := ga (adM a) H.size) (tz_runV (C := "StoryMachineModel") (As := [.int z75]) (rest := []) ⟨hx, hb, hml, hown, hts⟩ (c_Mo_show l hfl dC dI cI cJ a H.size th tr t117z_dp t117z_zi co t117z_sh lt ts t117z_mf z75 hok (by omega)) (tx_cb (n := 1) hts rfl rfl ⟨Nat.le_of_ble_eq_true rfl, Nat.le_of_ble_eq_true rfl⟩ (tx_code.of (hts _ mw_1410)) (hts _ mw_12) (by decide +kernel) (hts _ mw_1407)) (hts _ mw_1409) (hts _ ms_Mo_show) ⟨tz_blind, sv_recv (q0 := 0) hts in_Mo hK hI kM_0 rfl, fun U hU hW => ⟨rfl, by rw [hU], by rw [hU]; exact hI.1, va_K.moved hW.alike hK, hst _ _ hI.2 U hU hW⟩⟩ rfl rfl hl.1 rfl (lv_room (Nat.le_of_ble_eq_true rfl)) d_Mo_none_132 ⟨Nat.le_of_ble_eq_true rfl, Nat.le_of_ble_eq_true rfl⟩) hI.2 (fun q _ h => ga_sub hAC hA0 hI.2 q h) (ga_sub hAC hA0 hI.2) (fun v t H1 locs1 ht hWt hpost _ _ hS => ?_) (fun x t H1 locs1 ht hWt hpost _ _ hS => (hpost.2 x rfl).elim)
        rcases hpost.1 _ rfl with ⟨hv, c76, c76_0, hI1⟩ | ⟨t_sh77, hv, c78, c78_0, c78_1, c78_2, hI1⟩
        · omega
        · cases hv
          have hI : sI (dC, dI) vcl cI cJ (gsM a th tr t117z_dp t117z_zi co t_sh77 lt ts t117z_mf) A s.heap H1 locs1 := ⟨by rw [← ht]; exact hI1, hS⟩
          obtain ⟨-, -, -, -, -, ⟨o79, o80⟩, -, -, -⟩ := id c78
          clear hpost hI1 hS ht hWt
          revert hI; generalize H1 = H; generalize locs1 = locs; intro hI
          refine lv_aload_n hx hb d_Mo_none_135 rfl (lv_at hl 0 rfl) ?_
          refine sn_iconst hx hb d_Mo_none_136 (by decide) (fun z81 hz81 => ?_)
          refine tz_call (A1 := ga (adM a) H.size) (tz_runV (C := "StoryMachineModel") (As := [.int z81]) (rest := []) ⟨hx, hb, hml, hown, hts⟩ (c_Mo_leave l hfl dC dI cI cJ a H.size th tr t117z_dp t117z_zi co t_sh77 lt ts t117z_mf z81 c78) (tx_cb (n := 1) hts rfl rfl ⟨Nat.le_of_ble_eq_true rfl, Nat.le_of_ble_eq_true rfl⟩ (tx_code.of (hts _ mw_1292)) (hts _ mw_12) (by decide +kernel) (hts _ mw_1289)) (hts _ mw_1291) (hts _ ms_Mo_leave) ⟨tz_blind, sv_recv (q0 := 0) hts in_Mo hK hI kM_0 rfl, fun U hU hW => ⟨rfl, by rw [hU], by rw [hU]; exact hI.1, va_K.moved hW.alike hK, hst _ _ hI.2 U hU hW⟩⟩ rfl rfl hl.1 rfl (lv_room (Nat.le_of_ble_eq_true rfl)) d_Mo_none_137 ⟨Nat.le_of_ble_eq_true rfl, Nat.le_of_ble_eq_true rfl⟩) hI.2 (fun q _ h => ga_sub hAC hA0 hI.2 q h) (ga_sub hAC hA0 hI.2) (fun v t H1 locs1 ht hWt hpost _ _ hS => ?_) (fun x t H1 locs1 ht hWt hpost _ _ hS => (hpost.2 x rfl).elim)
          rcases hpost.1 _ rfl with ⟨t_tr82, t_dp83, t_zi84, hv, c85, c85_0, hI1⟩ | ⟨t_dp86, t_zi87, f_mf88, hv, c89, c89_0, c89_1, c89_2, hI1⟩
          · cases hv
            have hI : sI (dC, dI) vcl cI cJ (gsM a th t_tr82 t_dp83 t_zi84 co t_sh77 lt ts t117z_mf) A s.heap H1 locs1 := ⟨by rw [← ht]; exact hI1, hS⟩
            obtain ⟨-, ⟨o90, o91⟩, ⟨o92, o93⟩, ⟨o94, o95⟩, -, -, -, -, -⟩ := id c85
            clear hpost hI1 hS ht hWt
            revert hI; generalize H1 = H; generalize locs1 = locs; intro hI
            subst hZ
            exact tz_ret (W.vret hx hb hr (fun t ht hW => ⟨⟨fun v9 hv9 => by cases hv9; exact (Or.inl ⟨t_tr82, t_dp83, t_zi84, t_sh77, t117z_mf, rfl, c85, by omega, by omega, by omega, by rw [ht]; exact hI.1⟩), fun x9 hx9 => (by cases hx9)⟩, hI.2.F ht⟩) hI.2.2.2 d_Mo_none_140)
          · cases hv
            have hI : sI (dC, dI) vcl cI cJ (gsM a th tr t_dp86 t_zi87 co t_sh77 lt ts f_mf88) A s.heap H1 locs1 := ⟨by rw [← ht]; exact hI1, hS⟩
            obtain ⟨-, -, ⟨o96, o97⟩, ⟨o98, o99⟩, -, -, -, -, -⟩ := id c89
            clear hpost hI1 hS ht hWt
            revert hI; generalize H1 = H; generalize locs1 = locs; intro hI
            subst hZ
            exact tz_ret (W.vret hx hb hr (fun t ht hW => ⟨⟨fun v9 hv9 => by cases hv9; exact (Or.inr (Or.inr (⟨t_dp86, t_zi87, t_sh77, f_mf88, rfl, c89, by omega, by omega, by omega, by rw [ht]; exact hI.1⟩))), fun x9 hx9 => (by cases hx9)⟩, hI.2.F ht⟩) hI.2.2.2 d_Mo_none_140)
  refine lv_iload_n hx hb d_Mo_none_0 rfl (lv_at hl 1 rfl) ?_
  refine sn_iconst hx hb d_Mo_none_1 (by decide) (fun z100 hz100 => ?_)
  refine sn_icmp_ge (tgt := 15) hx hb d_Mo_none_2 (by decide) (fun b101 => ?_) (fun b101 => ?_)
  · refine lv_iload_n hx hb d_Mo_none_15 rfl (lv_at hl 1 rfl) ?_
    refine sn_iconst hx hb d_Mo_none_16 (by decide) (fun z102 hz102 => ?_)
    refine sn_icmp_ge (tgt := 35) hx hb d_Mo_none_17 (by decide) (fun b103 => ?_) (fun b103 => ?_)
    · refine lv_iload_n hx hb d_Mo_none_35 rfl (lv_at hl 1 rfl) ?_
      refine sn_iconst hx hb d_Mo_none_36 (by decide) (fun z104 hz104 => ?_)
      refine sn_icmp_ne (tgt := 47) hx hb d_Mo_none_37 (by decide) (fun b105 => ?_) (fun b105 => ?_)
      · refine lv_iload_n hx hb d_Mo_none_47 rfl (lv_at hl 1 rfl) ?_
        refine sn_bipush hx hb d_Mo_none_48 (by decide) (fun z106 hz106 => ?_)
        refine sn_icmp_ne (tgt := 60) hx hb d_Mo_none_50 (by decide) (fun b107 => ?_) (fun b107 => ?_)
        · refine lv_iload_n hx hb d_Mo_none_60 rfl (lv_at hl 1 rfl) ?_
          refine sn_bipush hx hb d_Mo_none_61 (by decide) (fun z108 hz108 => ?_)
          refine sn_icmp_ne (tgt := 77) hx hb d_Mo_none_63 (by decide) (fun b109 => ?_) (fun b109 => ?_)
          · refine lv_iload_n hx hb d_Mo_none_77 rfl (lv_at hl 1 rfl) ?_
            refine sn_bipush hx hb d_Mo_none_78 (by decide) (fun z110 hz110 => ?_)
            refine sn_icmp_ne (tgt := 91) hx hb d_Mo_none_80 (by decide) (fun b111 => ?_) (fun b111 => ?_)
            · refine lv_iload_n hx hb d_Mo_none_91 rfl (lv_at hl 1 rfl) ?_
              refine sn_bipush hx hb d_Mo_none_92 (by decide) (fun z112 hz112 => ?_)
              refine sn_icmp_ne (tgt := 105) hx hb d_Mo_none_94 (by decide) (fun b113 => ?_) (fun b113 => ?_)
              · refine lv_iload_n hx hb d_Mo_none_105 rfl (lv_at hl 1 rfl) ?_
                refine sn_bipush hx hb d_Mo_none_106 (by decide) (fun z114 hz114 => ?_)
                refine sn_icmp_ne (tgt := 117) hx hb d_Mo_none_108 (by decide) (fun b115 => ?_) (fun b115 => ?_)
                · exact j117u _ _ _  hI hok (by omega) (by omega) (lv_sub hl [0, 1] rfl)
                · refine lv_aload_n hx hb d_Mo_none_111 rfl (lv_at hl 0 rfl) ?_
                  refine sn_bipush hx hb d_Mo_none_112 (by decide) (fun z116 hz116 => ?_)
                  refine tz_call (A1 := ga (adM a) H.size) (tz_runV (C := "StoryMachineModel") (As := [.int z116]) (rest := []) ⟨hx, hb, hml, hown, hts⟩ (c_Mo_show l hfl dC dI cI cJ a H.size th tr dp zi co sh lt ts mf z116 hok (by omega)) (tx_cb (n := 1) hts rfl rfl ⟨Nat.le_of_ble_eq_true rfl, Nat.le_of_ble_eq_true rfl⟩ (tx_code.of (hts _ mw_1410)) (hts _ mw_12) (by decide +kernel) (hts _ mw_1407)) (hts _ mw_1409) (hts _ ms_Mo_show) ⟨tz_blind, sv_recv (q0 := 0) hts in_Mo hK hI kM_0 rfl, fun U hU hW => ⟨rfl, by rw [hU], by rw [hU]; exact hI.1, va_K.moved hW.alike hK, hst _ _ hI.2 U hU hW⟩⟩ rfl rfl hl.1 rfl (lv_room (Nat.le_of_ble_eq_true rfl)) d_Mo_none_114 ⟨Nat.le_of_ble_eq_true rfl, Nat.le_of_ble_eq_true rfl⟩) hI.2 (fun q _ h => ga_sub hAC hA0 hI.2 q h) (ga_sub hAC hA0 hI.2) (fun v t H1 locs1 ht hWt hpost _ _ hS => ?_) (fun x t H1 locs1 ht hWt hpost _ _ hS => (hpost.2 x rfl).elim)
                  rcases hpost.1 _ rfl with ⟨hv, c117, c117_0, hI1⟩ | ⟨t_sh118, hv, c119, c119_0, c119_1, c119_2, hI1⟩
                  · cases hv
                    have hI : sI (dC, dI) vcl cI cJ (gsM a th tr dp zi co sh lt ts mf) A s.heap H1 locs1 := ⟨by rw [← ht]; exact hI1, hS⟩
                    clear hpost hI1 hS ht hWt
                    revert hI; generalize H1 = H; generalize locs1 = locs; intro hI
                    exact j117p _ _ _ tr dp zi sh mf hI c117 (by omega) (by omega) (by omega) (by omega) (lv_sub hl [0, 1] rfl)
                  · cases hv
                    have hI : sI (dC, dI) vcl cI cJ (gsM a th tr dp zi co t_sh118 lt ts mf) A s.heap H1 locs1 := ⟨by rw [← ht]; exact hI1, hS⟩
                    obtain ⟨-, -, -, -, -, ⟨o120, o121⟩, -, -, -⟩ := id c119
                    clear hpost hI1 hS ht hWt
                    revert hI; generalize H1 = H; generalize locs1 = locs; intro hI
                    exact j117z _ _ _ dp zi t_sh118 mf hI c119 (by omega) (by omega) (by omega) (lv_sub hl [0, 1] rfl)
              · refine lv_aload_n hx hb d_Mo_none_97 rfl (lv_at hl 0 rfl) ?_
                refine sn_iconst hx hb d_Mo_none_98 (by decide) (fun z122 hz122 => ?_)
                refine sv_put (C := "StoryMachineModel") (T := T_Mo) (N := 51) (ty := .boolean) hx hb hts in_Mo t_Mo tk_Mo nm_Mo hown hK (sh_in adM_map hAC) hI 0 kM_0 rfl 26 (by decide) (hts _ mw_1089) rfl (by decide +kernel) (sn_bool (by omega) (by omega)).1 (sn_bool (by omega) (by omega)).2 (Nat.le_of_ble_eq_true rfl) (by omega) (by omega) pM_0_26 d_Mo_none_99 (fun H locs hI => ?_)
                refine lv_goto (tgt := 117) hx hb d_Mo_none_102 (by decide) ?_
                exact j117u _ _ _  hI hok (by omega) (by omega) (lv_sub hl [0, 1] rfl)
            · refine lv_aload_n hx hb d_Mo_none_83 rfl (lv_at hl 0 rfl) ?_
              refine tz_call (A1 := ga (adM a) H.size) (tz_runV (C := "StoryMachineModel") (As := []) (rest := []) ⟨hx, hb, hml, hown, hts⟩ (c_Mo_pop l hfl dC dI cI cJ a H.size th tr dp zi co sh lt ts mf  hok) (tx_cb (n := 0) hts rfl rfl ⟨Nat.le_of_ble_eq_true rfl, Nat.le_of_ble_eq_true rfl⟩ (tx_code.of (hts _ mw_1260)) (hts _ mw_12) (by decide +kernel) (hts _ mw_1257)) (hts _ mw_1259) (hts _ ms_Mo_pop) ⟨tz_blind, sv_recv (q0 := 0) hts in_Mo hK hI kM_0 rfl, fun U hU hW => ⟨rfl, by rw [hU], by rw [hU]; exact hI.1, va_K.moved hW.alike hK, hst _ _ hI.2 U hU hW⟩⟩ rfl rfl hl.1 rfl (lv_room (Nat.le_of_ble_eq_true rfl)) d_Mo_none_84 ⟨Nat.le_of_ble_eq_true rfl, Nat.le_of_ble_eq_true rfl⟩) hI.2 (fun q _ h => ga_sub hAC hA0 hI.2 q h) (ga_sub hAC hA0 hI.2) (fun v t H1 locs1 ht hWt hpost _ _ hS => ?_) (fun x t H1 locs1 ht hWt hpost _ _ hS => (hpost.2 x rfl).elim)
              rcases hpost.1 _ rfl with ⟨z123, t_tr124, hv, c125, c125_0, c125_1, c125_2, hI1⟩ | ⟨z126, t_zi127, hv, c128, c128_0, c128_1, c128_2, c128_3, c128_4, hI1⟩
              · cases hv
                have hI : sI (dC, dI) vcl cI cJ (gsM a th t_tr124 dp zi co sh lt ts mf) A s.heap H1 locs1 := ⟨by rw [← ht]; exact hI1, hS⟩
                obtain ⟨-, ⟨o129, o130⟩, -, -, -, -, -, -, -⟩ := id c125
                clear hpost hI1 hS ht hWt
                revert hI; generalize H1 = H; generalize locs1 = locs; intro hI
                refine lv_pop hx hb d_Mo_none_87 rfl ?_
                refine lv_goto (tgt := 117) hx hb d_Mo_none_88 (by decide) ?_
                exact j117p _ _ _ t_tr124 dp zi sh mf hI c125 (by omega) (by omega) (by omega) (by omega) (lv_sub hl [0, 1] rfl)
              · cases hv
                have hI : sI (dC, dI) vcl cI cJ (gsM a th tr dp t_zi127 co sh lt ts mf) A s.heap H1 locs1 := ⟨by rw [← ht]; exact hI1, hS⟩
                obtain ⟨-, -, -, ⟨o131, o132⟩, -, -, -, -, -⟩ := id c128
                clear hpost hI1 hS ht hWt
                revert hI; generalize H1 = H; generalize locs1 = locs; intro hI
                refine lv_pop hx hb d_Mo_none_87 rfl ?_
                refine lv_goto (tgt := 117) hx hb d_Mo_none_88 (by decide) ?_
                exact j117z _ _ _ dp t_zi127 sh mf hI c128 (by omega) (by omega) (by omega) (lv_sub hl [0, 1] rfl)
          · refine lv_aload_n hx hb d_Mo_none_66 rfl (lv_at hl 0 rfl) ?_
            refine lv_aload_n hx hb d_Mo_none_67 rfl (lv_at hl 0 rfl) ?_
            refine tz_call (A1 := ga (adM a) H.size) (tz_runV (C := "StoryMachineModel") (As := []) (rest := [.ref (a 0)]) ⟨hx, hb, hml, hown, hts⟩ (c_Mo_pop l hfl dC dI cI cJ a H.size th tr dp zi co sh lt ts mf  hok) (tx_cb (n := 0) hts rfl rfl ⟨Nat.le_of_ble_eq_true rfl, Nat.le_of_ble_eq_true rfl⟩ (tx_code.of (hts _ mw_1260)) (hts _ mw_12) (by decide +kernel) (hts _ mw_1257)) (hts _ mw_1259) (hts _ ms_Mo_pop) ⟨tz_blind, sv_recv (q0 := 0) hts in_Mo hK hI kM_0 rfl, fun U hU hW => ⟨rfl, by rw [hU], by rw [hU]; exact hI.1, va_K.moved hW.alike hK, hst _ _ hI.2 U hU hW⟩⟩ rfl rfl hl.1 rfl (lv_room (Nat.le_of_ble_eq_true rfl)) d_Mo_none_68 ⟨Nat.le_of_ble_eq_true rfl, Nat.le_of_ble_eq_true rfl⟩) hI.2 (fun q _ h => ga_sub hAC hA0 hI.2 q h) (ga_sub hAC hA0 hI.2) (fun v t H1 locs1 ht hWt hpost _ _ hS => ?_) (fun x t H1 locs1 ht hWt hpost _ _ hS => (hpost.2 x rfl).elim)
            rcases hpost.1 _ rfl with ⟨z133, t_tr134, hv, c135, c135_0, c135_1, c135_2, hI1⟩ | ⟨z136, t_zi137, hv, c138, c138_0, c138_1, c138_2, c138_3, c138_4, hI1⟩
            · cases hv
              have hI : sI (dC, dI) vcl cI cJ (gsM a th t_tr134 dp zi co sh lt ts mf) A s.heap H1 locs1 := ⟨by rw [← ht]; exact hI1, hS⟩
              obtain ⟨-, ⟨o139, o140⟩, -, -, -, -, -, -, -⟩ := id c135
              clear hpost hI1 hS ht hWt
              revert hI; generalize H1 = H; generalize locs1 = locs; intro hI
              refine tz_call (A1 := ga (adM a) H.size) (tz_runV (C := "StoryMachineModel") (As := [.int z133]) (rest := []) ⟨hx, hb, hml, hown, hts⟩ (c_Mo_leaveWith l hfl dC dI cI cJ a H.size th t_tr134 dp zi co sh lt ts mf z133 c135) (tx_cb (n := 1) hts rfl rfl ⟨Nat.le_of_ble_eq_true rfl, Nat.le_of_ble_eq_true rfl⟩ (tx_code.of (hts _ mw_1436)) (hts _ mw_12) (by decide +kernel) (hts _ mw_1433)) (hts _ mw_1435) (hts _ ms_Mo_leaveWith) ⟨tz_blind, sv_recv (q0 := 0) hts in_Mo hK hI kM_0 rfl, fun U hU hW => ⟨rfl, by rw [hU], by rw [hU]; exact hI.1, va_K.moved hW.alike hK, hst _ _ hI.2 U hU hW⟩⟩ rfl rfl hl.1 rfl (lv_room (Nat.le_of_ble_eq_true rfl)) d_Mo_none_71 ⟨Nat.le_of_ble_eq_true rfl, Nat.le_of_ble_eq_true rfl⟩) hI.2 (fun q _ h => ga_sub hAC hA0 hI.2 q h) (ga_sub hAC hA0 hI.2) (fun v t H1 locs1 ht hWt hpost _ _ hS => ?_) (fun x t H1 locs1 ht hWt hpost _ _ hS => (hpost.2 x rfl).elim)
              rcases hpost.1 _ rfl with ⟨t_tr141, t_dp142, t_zi143, hv, c144, c144_0, hI1⟩ | ⟨t_dp145, t_zi146, f_mf147, hv, c148, c148_0, c148_1, c148_2, hI1⟩
              · cases hv
                have hI : sI (dC, dI) vcl cI cJ (gsM a th t_tr141 t_dp142 t_zi143 co sh lt ts mf) A s.heap H1 locs1 := ⟨by rw [← ht]; exact hI1, hS⟩
                obtain ⟨-, ⟨o149, o150⟩, ⟨o151, o152⟩, ⟨o153, o154⟩, -, -, -, -, -⟩ := id c144
                clear hpost hI1 hS ht hWt
                revert hI; generalize H1 = H; generalize locs1 = locs; intro hI
                refine lv_goto (tgt := 117) hx hb d_Mo_none_74 (by decide) ?_
                exact j117p _ _ _ t_tr141 t_dp142 t_zi143 sh mf hI c144 (by omega) (by omega) (by omega) (by omega) (lv_sub hl [0, 1] rfl)
              · omega
            · cases hv
              have hI : sI (dC, dI) vcl cI cJ (gsM a th tr dp t_zi137 co sh lt ts mf) A s.heap H1 locs1 := ⟨by rw [← ht]; exact hI1, hS⟩
              obtain ⟨-, -, -, ⟨o155, o156⟩, -, -, -, -, -⟩ := id c138
              clear hpost hI1 hS ht hWt
              revert hI; generalize H1 = H; generalize locs1 = locs; intro hI
              refine tz_call (A1 := ga (adM a) H.size) (tz_runV (C := "StoryMachineModel") (As := [.int z136]) (rest := []) ⟨hx, hb, hml, hown, hts⟩ (c_Mo_leaveWith l hfl dC dI cI cJ a H.size th tr dp t_zi137 co sh lt ts mf z136 c138) (tx_cb (n := 1) hts rfl rfl ⟨Nat.le_of_ble_eq_true rfl, Nat.le_of_ble_eq_true rfl⟩ (tx_code.of (hts _ mw_1436)) (hts _ mw_12) (by decide +kernel) (hts _ mw_1433)) (hts _ mw_1435) (hts _ ms_Mo_leaveWith) ⟨tz_blind, sv_recv (q0 := 0) hts in_Mo hK hI kM_0 rfl, fun U hU hW => ⟨rfl, by rw [hU], by rw [hU]; exact hI.1, va_K.moved hW.alike hK, hst _ _ hI.2 U hU hW⟩⟩ rfl rfl hl.1 rfl (lv_room (Nat.le_of_ble_eq_true rfl)) d_Mo_none_71 ⟨Nat.le_of_ble_eq_true rfl, Nat.le_of_ble_eq_true rfl⟩) hI.2 (fun q _ h => ga_sub hAC hA0 hI.2 q h) (ga_sub hAC hA0 hI.2) (fun v t H1 locs1 ht hWt hpost _ _ hS => ?_) (fun x t H1 locs1 ht hWt hpost _ _ hS => (hpost.2 x rfl).elim)
              rcases hpost.1 _ rfl with ⟨t_tr157, t_dp158, t_zi159, hv, c160, c160_0, hI1⟩ | ⟨t_dp161, t_zi162, f_mf163, hv, c164, c164_0, c164_1, c164_2, hI1⟩
              · cases hv
                have hI : sI (dC, dI) vcl cI cJ (gsM a th t_tr157 t_dp158 t_zi159 co sh lt ts mf) A s.heap H1 locs1 := ⟨by rw [← ht]; exact hI1, hS⟩
                obtain ⟨-, ⟨o165, o166⟩, ⟨o167, o168⟩, ⟨o169, o170⟩, -, -, -, -, -⟩ := id c160
                clear hpost hI1 hS ht hWt
                revert hI; generalize H1 = H; generalize locs1 = locs; intro hI
                refine lv_goto (tgt := 117) hx hb d_Mo_none_74 (by decide) ?_
                exact j117p _ _ _ t_tr157 t_dp158 t_zi159 sh mf hI c160 (by omega) (by omega) (by omega) (by omega) (lv_sub hl [0, 1] rfl)
              · cases hv
                have hI : sI (dC, dI) vcl cI cJ (gsM a th tr t_dp161 t_zi162 co sh lt ts f_mf163) A s.heap H1 locs1 := ⟨by rw [← ht]; exact hI1, hS⟩
                obtain ⟨-, -, ⟨o171, o172⟩, ⟨o173, o174⟩, -, -, -, -, -⟩ := id c164
                clear hpost hI1 hS ht hWt
                revert hI; generalize H1 = H; generalize locs1 = locs; intro hI
                refine lv_goto (tgt := 117) hx hb d_Mo_none_74 (by decide) ?_
                exact j117z _ _ _ t_dp161 t_zi162 sh f_mf163 hI c164 (by omega) (by omega) (by omega) (lv_sub hl [0, 1] rfl)
        · refine lv_aload_n hx hb d_Mo_none_53 rfl (lv_at hl 0 rfl) ?_
          refine tz_call (A1 := ga (adM a) H.size) (tz_runV (C := "StoryMachineModel") (As := []) (rest := []) ⟨hx, hb, hml, hown, hts⟩ (c_Mo_restore l hfl dC dI cI cJ a H.size th tr dp zi co sh lt ts mf  hok) (tx_cb (n := 0) hts rfl rfl ⟨Nat.le_of_ble_eq_true rfl, Nat.le_of_ble_eq_true rfl⟩ (tx_code.of (hts _ mw_1432)) (hts _ mw_12) (by decide +kernel) (hts _ mw_1429)) (hts _ mw_1431) (hts _ ms_Mo_restore) ⟨tz_blind, sv_recv (q0 := 0) hts in_Mo hK hI kM_0 rfl, fun U hU hW => ⟨rfl, by rw [hU], by rw [hU]; exact hI.1, va_K.moved hW.alike hK, hst _ _ hI.2 U hU hW⟩⟩ rfl rfl hl.1 rfl (lv_room (Nat.le_of_ble_eq_true rfl)) d_Mo_none_54 ⟨Nat.le_of_ble_eq_true rfl, Nat.le_of_ble_eq_true rfl⟩) hI.2 (fun q _ h => ga_sub hAC hA0 hI.2 q h) (ga_sub hAC hA0 hI.2) (fun v t H1 locs1 ht hWt hpost _ _ hS => ?_) (fun x t H1 locs1 ht hWt hpost _ _ hS => (hpost.2 x rfl).elim)
          rcases hpost.1 _ rfl with ⟨t_tr175, t_dp176, t_zi177, f_mf178, hv, c179, c179_0, hI1⟩ | ⟨t_dp180, t_zi181, f_mf182, hv, c183, c183_0, hI1⟩
          · cases hv
            have hI : sI (dC, dI) vcl cI cJ (gsM a th t_tr175 t_dp176 t_zi177 co sh lt ts f_mf178) A s.heap H1 locs1 := ⟨by rw [← ht]; exact hI1, hS⟩
            obtain ⟨-, ⟨o184, o185⟩, ⟨o186, o187⟩, ⟨o188, o189⟩, -, -, -, -, -⟩ := id c179
            clear hpost hI1 hS ht hWt
            revert hI; generalize H1 = H; generalize locs1 = locs; intro hI
            refine lv_goto (tgt := 117) hx hb d_Mo_none_57 (by decide) ?_
            exact j117p _ _ _ t_tr175 t_dp176 t_zi177 sh f_mf178 hI c179 (by omega) (by omega) (by omega) (by omega) (lv_sub hl [0, 1] rfl)
          · cases hv
            have hI : sI (dC, dI) vcl cI cJ (gsM a th tr t_dp180 t_zi181 co sh lt ts f_mf182) A s.heap H1 locs1 := ⟨by rw [← ht]; exact hI1, hS⟩
            obtain ⟨-, -, ⟨o190, o191⟩, ⟨o192, o193⟩, -, -, -, -, -⟩ := id c183
            clear hpost hI1 hS ht hWt
            revert hI; generalize H1 = H; generalize locs1 = locs; intro hI
            refine lv_goto (tgt := 117) hx hb d_Mo_none_57 (by decide) ?_
            exact j117z _ _ _ t_dp180 t_zi181 sh f_mf182 hI c183 (by omega) (by omega) (by omega) (lv_sub hl [0, 1] rfl)
      · refine lv_aload_n hx hb d_Mo_none_40 rfl (lv_at hl 0 rfl) ?_
        refine tz_call (A1 := ga (adM a) H.size) (tz_runV (C := "StoryMachineModel") (As := []) (rest := []) ⟨hx, hb, hml, hown, hts⟩ (c_Mo_save l hfl dC dI cI cJ a H.size th tr dp zi co sh lt ts mf  hok) (tx_cb (n := 0) hts rfl rfl ⟨Nat.le_of_ble_eq_true rfl, Nat.le_of_ble_eq_true rfl⟩ (tx_code.of (hts _ mw_1425)) (hts _ mw_12) (by decide +kernel) (hts _ mw_1422)) (hts _ mw_1424) (hts _ ms_Mo_save) ⟨tz_blind, sv_recv (q0 := 0) hts in_Mo hK hI kM_0 rfl, fun U hU hW => ⟨rfl, by rw [hU], by rw [hU]; exact hI.1, va_K.moved hW.alike hK, hst _ _ hI.2 U hU hW⟩⟩ rfl rfl hl.1 rfl (lv_room (Nat.le_of_ble_eq_true rfl)) d_Mo_none_41 ⟨Nat.le_of_ble_eq_true rfl, Nat.le_of_ble_eq_true rfl⟩) hI.2 (fun q _ h => ga_sub hAC hA0 hI.2 q h) (ga_sub hAC hA0 hI.2) (fun v t H1 locs1 ht hWt hpost _ _ hS => ?_) (fun x t H1 locs1 ht hWt hpost _ _ hS => (hpost.2 x rfl).elim)
        rcases hpost.1 _ rfl with ⟨t_tr194, t_dp195, t_zi196, hv, c197, c197_0, hI1⟩ | ⟨t_dp198, t_zi199, f_mf200, hv, c201, c201_0, hI1⟩
        · cases hv
          have hI : sI (dC, dI) vcl cI cJ (gsM a th t_tr194 t_dp195 t_zi196 co sh lt ts mf) A s.heap H1 locs1 := ⟨by rw [← ht]; exact hI1, hS⟩
          obtain ⟨-, ⟨o202, o203⟩, ⟨o204, o205⟩, ⟨o206, o207⟩, -, -, -, -, -⟩ := id c197
          clear hpost hI1 hS ht hWt
          revert hI; generalize H1 = H; generalize locs1 = locs; intro hI
          refine lv_goto (tgt := 117) hx hb d_Mo_none_44 (by decide) ?_
          exact j117p _ _ _ t_tr194 t_dp195 t_zi196 sh mf hI c197 (by omega) (by omega) (by omega) (by omega) (lv_sub hl [0, 1] rfl)
        · cases hv
          have hI : sI (dC, dI) vcl cI cJ (gsM a th tr t_dp198 t_zi199 co sh lt ts f_mf200) A s.heap H1 locs1 := ⟨by rw [← ht]; exact hI1, hS⟩
          obtain ⟨-, -, ⟨o208, o209⟩, ⟨o210, o211⟩, -, -, -, -, -⟩ := id c201
          clear hpost hI1 hS ht hWt
          revert hI; generalize H1 = H; generalize locs1 = locs; intro hI
          refine lv_goto (tgt := 117) hx hb d_Mo_none_44 (by decide) ?_
          exact j117z _ _ _ t_dp198 t_zi199 sh f_mf200 hI c201 (by omega) (by omega) (by omega) (lv_sub hl [0, 1] rfl)
    · refine lv_aload_n hx hb d_Mo_none_20 rfl (lv_at hl 0 rfl) ?_
      refine lv_aload_n hx hb d_Mo_none_21 rfl (lv_at hl 0 rfl) ?_
      refine lv_aload_n hx hb d_Mo_none_22 rfl (lv_at hl 0 rfl) ?_
      refine sv_get (C := "StoryMachineModel") (T := T_Mo) (N := 51) hx hb hts in_Mo hown hK hI 0 kM_0 rfl 43 (by decide) (hts _ mw_1106) rfl d_Mo_none_23 (fun z212 hz212a hz212b => ?_)
      refine tz_call (A1 := ga (adM a) H.size) (tz_runV (C := "StoryMachineModel") (As := [.int z212]) (rest := [.ref (a 0)]) ⟨hx, hb, hml, hown, hts⟩ (c_Mo_showText l hfl dC dI cI cJ a H.size th tr dp zi co sh lt ts mf z212 hok (by omega)) (tx_cb (n := 1) hts rfl rfl ⟨Nat.le_of_ble_eq_true rfl, Nat.le_of_ble_eq_true rfl⟩ (tx_code.of (hts _ mw_1401)) (hts _ mw_12) (by decide +kernel) (hts _ mw_1398)) (hts _ mw_1400) (hts _ ms_Mo_showText) ⟨tz_blind, sv_recv (q0 := 0) hts in_Mo hK hI kM_0 rfl, fun U hU hW => ⟨rfl, by rw [hU], by rw [hU]; exact hI.1, va_K.moved hW.alike hK, hst _ _ hI.2 U hU hW⟩⟩ rfl rfl hl.1 rfl (lv_room (Nat.le_of_ble_eq_true rfl)) d_Mo_none_26 ⟨Nat.le_of_ble_eq_true rfl, Nat.le_of_ble_eq_true rfl⟩) hI.2 (fun q _ h => ga_sub hAC hA0 hI.2 q h) (ga_sub hAC hA0 hI.2) (fun v t H1 locs1 ht hWt hpost _ _ hS => ?_) (fun x t H1 locs1 ht hWt hpost _ _ hS => (hpost.2 x rfl).elim)
      rcases hpost.1 _ rfl with ⟨z213, t_tr214, t_sh215, hv, c216, c216_0, c216_1, c216_2, c216_3, hI1⟩ | ⟨z217, t_sh218, hv, c219, c219_0, c219_1, c219_2, c219_3, c219_4, c219_5, hI1⟩
      · cases hv
        have hI : sI (dC, dI) vcl cI cJ (gsM a th t_tr214 dp zi co t_sh215 lt ts mf) A s.heap H1 locs1 := ⟨by rw [← ht]; exact hI1, hS⟩
        obtain ⟨-, ⟨o220, o221⟩, -, -, -, ⟨o222, o223⟩, -, -, -⟩ := id c216
        clear hpost hI1 hS ht hWt
        revert hI; generalize H1 = H; generalize locs1 = locs; intro hI
        refine sv_put (C := "StoryMachineModel") (T := T_Mo) (N := 51) (ty := .int) hx hb hts in_Mo t_Mo tk_Mo nm_Mo hown hK (sh_in adM_map hAC) hI 0 kM_0 rfl 28 (by decide) (hts _ mw_1091) rfl (by decide +kernel) rfl rfl (Nat.le_of_ble_eq_true rfl) (by omega) (by omega) pM_0_28 d_Mo_none_29 (fun H locs hI => ?_)
        refine lv_goto (tgt := 117) hx hb d_Mo_none_32 (by decide) ?_
        exact j117p _ _ _ t_tr214 dp zi t_sh215 mf hI c216 (by omega) (by omega) (by omega) (by omega) (lv_sub hl [0, 1] rfl)
      · cases hv
        have hI : sI (dC, dI) vcl cI cJ (gsM a th tr dp zi co t_sh218 lt ts mf) A s.heap H1 locs1 := ⟨by rw [← ht]; exact hI1, hS⟩
        obtain ⟨-, -, -, -, -, ⟨o224, o225⟩, -, -, -⟩ := id c219
        clear hpost hI1 hS ht hWt
        revert hI; generalize H1 = H; generalize locs1 = locs; intro hI
        refine sv_put (C := "StoryMachineModel") (T := T_Mo) (N := 51) (ty := .int) hx hb hts in_Mo t_Mo tk_Mo nm_Mo hown hK (sh_in adM_map hAC) hI 0 kM_0 rfl 28 (by decide) (hts _ mw_1091) rfl (by decide +kernel) rfl rfl (Nat.le_of_ble_eq_true rfl) (by omega) (by omega) pM_0_28 d_Mo_none_29 (fun H locs hI => ?_)
        refine lv_goto (tgt := 117) hx hb d_Mo_none_32 (by decide) ?_
        exact j117z _ _ _ dp zi t_sh218 mf hI c219 (by omega) (by omega) (by omega) (lv_sub hl [0, 1] rfl)
  · refine lv_aload_n hx hb d_Mo_none_5 rfl (lv_at hl 0 rfl) ?_
    refine sn_iconst hx hb d_Mo_none_6 (by decide) (fun z226 hz226 => ?_)
    refine lv_iload_n hx hb d_Mo_none_7 rfl (lv_at hl 1 rfl) ?_
    refine sn_isub hx hb d_Mo_none_8 (by omega) (by omega) (fun z227 hz227 => ?_)
    refine tz_call (A1 := ga (adM a) H.size) (tz_runV (C := "StoryMachineModel") (As := [.int z227]) (rest := []) ⟨hx, hb, hml, hown, hts⟩ (c_Mo_leave l hfl dC dI cI cJ a H.size th tr dp zi co sh lt ts mf z227 hok) (tx_cb (n := 1) hts rfl rfl ⟨Nat.le_of_ble_eq_true rfl, Nat.le_of_ble_eq_true rfl⟩ (tx_code.of (hts _ mw_1292)) (hts _ mw_12) (by decide +kernel) (hts _ mw_1289)) (hts _ mw_1291) (hts _ ms_Mo_leave) ⟨tz_blind, sv_recv (q0 := 0) hts in_Mo hK hI kM_0 rfl, fun U hU hW => ⟨rfl, by rw [hU], by rw [hU]; exact hI.1, va_K.moved hW.alike hK, hst _ _ hI.2 U hU hW⟩⟩ rfl rfl hl.1 rfl (lv_room (Nat.le_of_ble_eq_true rfl)) d_Mo_none_9 ⟨Nat.le_of_ble_eq_true rfl, Nat.le_of_ble_eq_true rfl⟩) hI.2 (fun q _ h => ga_sub hAC hA0 hI.2 q h) (ga_sub hAC hA0 hI.2) (fun v t H1 locs1 ht hWt hpost _ _ hS => ?_) (fun x t H1 locs1 ht hWt hpost _ _ hS => (hpost.2 x rfl).elim)
    rcases hpost.1 _ rfl with ⟨t_tr228, t_dp229, t_zi230, hv, c231, c231_0, hI1⟩ | ⟨t_dp232, t_zi233, f_mf234, hv, c235, c235_0, c235_1, c235_2, hI1⟩
    · cases hv
      have hI : sI (dC, dI) vcl cI cJ (gsM a th t_tr228 t_dp229 t_zi230 co sh lt ts mf) A s.heap H1 locs1 := ⟨by rw [← ht]; exact hI1, hS⟩
      obtain ⟨-, ⟨o236, o237⟩, ⟨o238, o239⟩, ⟨o240, o241⟩, -, -, -, -, -⟩ := id c231
      clear hpost hI1 hS ht hWt
      revert hI; generalize H1 = H; generalize locs1 = locs; intro hI
      refine lv_goto (tgt := 117) hx hb d_Mo_none_12 (by decide) ?_
      exact j117p _ _ _ t_tr228 t_dp229 t_zi230 sh mf hI c231 (by omega) (by omega) (by omega) (by omega) (lv_sub hl [0, 1] rfl)
    · cases hv
      have hI : sI (dC, dI) vcl cI cJ (gsM a th tr t_dp232 t_zi233 co sh lt ts f_mf234) A s.heap H1 locs1 := ⟨by rw [← ht]; exact hI1, hS⟩
      obtain ⟨-, -, ⟨o242, o243⟩, ⟨o244, o245⟩, -, -, -, -, -⟩ := id c235
      clear hpost hI1 hS ht hWt
      revert hI; generalize H1 = H; generalize locs1 = locs; intro hI
      refine lv_goto (tgt := 117) hx hb d_Mo_none_12 (by decide) ?_
      exact j117z _ _ _ t_dp232 t_zi233 sh f_mf234 hI c235 (by omega) (by omega) (by omega) (lv_sub hl [0, 1] rfl)
abbrev q_Mo_giveIf (dC : Nat → ClassId) (dI : Nat → Nat → Nat) (cI cJ : ClassId) (a : Nat → Nat) (th tr dp zi co sh lt ts : Int) (mf : Nat → Int32) (x1 : Int32) : Outcome → State → Prop := fun o t => (∀ v, o = .returned v → ((∃ (tr_ : Int), v = none ∧ okM th tr_ dp zi co sh lt ts mf ∧ (1 ≤ tr_) ∧ sh_I (dC, dI) vcl cI cJ (gsM a th tr_ dp zi co sh lt ts mf) t.heap) ∨ (∃ (zi_ : Int) (mf_ : Nat → Int32), v = none ∧ okM th tr dp zi_ co sh lt ts mf_ ∧ (tr ≤ 0) ∧ sh_I (dC, dI) vcl cI cJ (gsM a th tr dp zi_ co sh lt ts mf_) t.heap))) ∧ (∀ x, o = .threw x → (False))
def rm_Mo_giveIf : Room := { frames := 6, cells := 0, slots := 0, locals := 131 }
set_option maxHeartbeats 4000000 in
set_option maxRecDepth 100000 in
theorem c_Mo_giveIf (l : Launch) (hfl : l.flags = pinnedFlags ++ [noTraceFlag]) (dC : Nat → ClassId) (dI : Nat → Nat → Nat) (cI cJ : ClassId) (a : Nat → Nat) (sz : Nat) (th tr dp zi co sh lt ts : Int) (mf : Nat → Int32) (x1 : Int32) (hok : okM th tr dp zi co sh lt ts mf) : tz_Met l ⟨"StoryMachineModel", "giveIf", "(I)V"⟩ tw_tbl rm_Mo_giveIf (tzP (dC, dI) vcl cI cJ (gsM a th tr dp zi co sh lt ts mf) a (adM a) [.ref (a 0), .int x1] sz) (tq_Q (q_Mo_giveIf dC dI cI cJ a th tr dp zi co sh lt ts mf x1) (ga (adM a) sz)) 0 0 0 0 (ga (adM a) sz) := by
  refine tz_ofW (cc := prog_13_method_51_code) (maxL := 2) (ret := none) (by decide) (tx_isM mw_1397) ?_
  intro p e s m args below meth c s₁ B hml hv
  obtain ⟨rfl, hsz, hI0, hK, hst0⟩ := hv
  have hx := B.exec
  have hb := B.bytes
  have hr := B.returns
  have hts := atoms_spec (ws := tw_tbl) B.pre
  have hown : s.vm.findClass "StoryMachineModel" = some m.cls := findClass_of_methodNamed B.named
  have hlocks := B.notSynchronized
  subst hsz
  have hst := fun (H : Heap) (locs : List Loc) (hS : va_S (ga (adM a) s.heap.size) s.heap H locs) (U : State) (hU : U.heap = H) (hW : s.WarmedH U.vm) => zS_all adM_map hI0 hst0 hS hU hW
  have hAC : ∀ q ∈ adM a, ga (adM a) s.heap.size q := fun q h => Or.inl h
  have hA0 : ∀ q, s.heap.size ≤ q → ga (adM a) s.heap.size q := fun q h => Or.inr h
  have hI : sI (dC, dI) vcl cI cJ (gsM a th tr dp zi co sh lt ts mf) (ga (adM a) s.heap.size) s.heap s.heap [] := ⟨hI0, va_S.rf⟩
  clear hI0 hst0
  have hl := lv_entry ([.ref (a 0), .int x1]) (n := 2) (Nat.le_of_ble_eq_true rfl)
  rw [lg_entry_eq]
  generalize (lg_sl ([.ref (a 0), .int x1]) ++ List.replicate (2 - (lg_sl ([.ref (a 0), .int x1])).length) Slot.unset).toArray = ls at hl ⊢
  have hl : lv_has ls 2 [(0, .ref (a 0)), (1, .int x1)] := hl
  generalize hZ : tz_MQ below (tq_Q (q_Mo_giveIf dC dI cI cJ a th tr dp zi co sh lt ts mf x1) (ga (adM a) s.heap.size)) ([.ref (a 0), .int x1] : List Value).toArray s 0 0 0 0 (ga (adM a) s.heap.size) = Z
  obtain ⟨A, hAe⟩ : ∃ A, A = ga (adM a) s.heap.size := ⟨_, rfl⟩
  rw [← hAe] at hst hAC hA0 hI hZ
  refine sv_start hI (fun H locs hI => ?_)
  obtain ⟨⟨o1, o2⟩, ⟨o3, o4⟩, ⟨o5, o6⟩, ⟨o7, o8⟩, ⟨o9, o10⟩, ⟨o11, o12⟩, ⟨o13, o14⟩, ⟨o15, o16⟩, -⟩ := id hok
  have gx1 := sn_rng x1
  refine lv_aload_n hx hb d_Mo_giveIf_0 rfl (lv_at hl 0 rfl) ?_
  refine sv_gete (C := "StoryMachineModel") (T := T_Mo) (N := 51) hx hb hts in_Mo hown hK hI 0 kM_0 rfl 25 (by decide) (hts _ mw_1088) rfl d_Mo_giveIf_1 (fun z17 hz17 => ?_)
  refine sn_if_ne (tgt := 12) hx hb d_Mo_giveIf_4 (by decide) (fun b18 => ?_) (fun b18 => ?_)
  · subst hZ
    exact tz_ret (W.vret hx hb hr (fun t ht hW => ⟨⟨fun v9 hv9 => by cases hv9; exact (Or.inl ⟨tr, rfl, hok, by omega, by rw [ht]; exact hI.1⟩), fun x9 hx9 => (by cases hx9)⟩, hI.2.F ht⟩) hI.2.2.2 d_Mo_giveIf_12)
  · refine lv_aload_n hx hb d_Mo_giveIf_7 rfl (lv_at hl 0 rfl) ?_
    refine lv_iload_n hx hb d_Mo_giveIf_8 rfl (lv_at hl 1 rfl) ?_
    refine tz_call (A1 := ga (adM a) H.size) (tz_runV (C := "StoryMachineModel") (As := [.int x1]) (rest := []) ⟨hx, hb, hml, hown, hts⟩ (c_Mo_give l hfl dC dI cI cJ a H.size th tr dp zi co sh lt ts mf x1 hok) (tx_cb (n := 1) hts rfl rfl ⟨Nat.le_of_ble_eq_true rfl, Nat.le_of_ble_eq_true rfl⟩ (tx_code.of (hts _ mw_1333)) (hts _ mw_12) (by decide +kernel) (hts _ mw_1330)) (hts _ mw_1332) (hts _ ms_Mo_give) ⟨tz_blind, sv_recv (q0 := 0) hts in_Mo hK hI kM_0 rfl, fun U hU hW => ⟨rfl, by rw [hU], by rw [hU]; exact hI.1, va_K.moved hW.alike hK, hst _ _ hI.2 U hU hW⟩⟩ rfl rfl hl.1 rfl (lv_room (Nat.le_of_ble_eq_true rfl)) d_Mo_giveIf_9 ⟨Nat.le_of_ble_eq_true rfl, Nat.le_of_ble_eq_true rfl⟩) hI.2 (fun q _ h => ga_sub hAC hA0 hI.2 q h) (ga_sub hAC hA0 hI.2) (fun v t H1 locs1 ht hWt hpost _ _ hS => ?_) (fun x t H1 locs1 ht hWt hpost _ _ hS => (hpost.2 x rfl).elim)
    rcases hpost.1 _ rfl with ⟨t_tr19, hv, c20, c20_0, hI1⟩ | ⟨t_zi21, f_mf22, hv, c23, c23_0, hI1⟩
    · cases hv
      have hI : sI (dC, dI) vcl cI cJ (gsM a th t_tr19 dp zi co sh lt ts mf) A s.heap H1 locs1 := ⟨by rw [← ht]; exact hI1, hS⟩
      obtain ⟨-, ⟨o24, o25⟩, -, -, -, -, -, -, -⟩ := id c20
      clear hpost hI1 hS ht hWt
      revert hI; generalize H1 = H; generalize locs1 = locs; intro hI
      subst hZ
      exact tz_ret (W.vret hx hb hr (fun t ht hW => ⟨⟨fun v9 hv9 => by cases hv9; exact (Or.inl ⟨t_tr19, rfl, c20, by omega, by rw [ht]; exact hI.1⟩), fun x9 hx9 => (by cases hx9)⟩, hI.2.F ht⟩) hI.2.2.2 d_Mo_giveIf_12)
    · cases hv
      have hI : sI (dC, dI) vcl cI cJ (gsM a th tr dp t_zi21 co sh lt ts f_mf22) A s.heap H1 locs1 := ⟨by rw [← ht]; exact hI1, hS⟩
      obtain ⟨-, -, -, ⟨o26, o27⟩, -, -, -, -, -⟩ := id c23
      clear hpost hI1 hS ht hWt
      revert hI; generalize H1 = H; generalize locs1 = locs; intro hI
      subst hZ
      exact tz_ret (W.vret hx hb hr (fun t ht hW => ⟨⟨fun v9 hv9 => by cases hv9; exact (Or.inr (⟨t_zi21, f_mf22, rfl, c23, by omega, by rw [ht]; exact hI.1⟩)), fun x9 hx9 => (by cases hx9)⟩, hI.2.F ht⟩) hI.2.2.2 d_Mo_giveIf_12)
abbrev q_Mo_showName (dC : Nat → ClassId) (dI : Nat → Nat → Nat) (cI cJ : ClassId) (a : Nat → Nat) (th tr dp zi co sh lt ts : Int) (mf : Nat → Int32) (x1 : Int32) : Outcome → State → Prop := fun o t => (∀ v, o = .returned v → ((∃ (tr_ sh_ : Int), v = none ∧ okM th tr_ dp zi co sh_ lt ts mf ∧ (1 ≤ tr_) ∧ (sh_ ≤ sh + 1600) ∧ sh_I (dC, dI) vcl cI cJ (gsM a th tr_ dp zi co sh_ lt ts mf) t.heap) ∨ (∃ (sh_ : Int), v = none ∧ okM th tr dp zi co sh_ lt ts mf ∧ (1 ≤ x1.toInt) ∧ (x1.toInt ≤ 20) ∧ (tr ≤ 0) ∧ (sh_ ≤ sh + 1600) ∧ sh_I (dC, dI) vcl cI cJ (gsM a th tr dp zi co sh_ lt ts mf) t.heap))) ∧ (∀ x, o = .threw x → (False))
def rm_Mo_showName : Room := { frames := 4, cells := 0, slots := 0, locals := 90 }
set_option maxHeartbeats 4000000 in
set_option maxRecDepth 100000 in
theorem c_Mo_showName (l : Launch) (hfl : l.flags = pinnedFlags ++ [noTraceFlag]) (dC : Nat → ClassId) (dI : Nat → Nat → Nat) (cI cJ : ClassId) (a : Nat → Nat) (sz : Nat) (th tr dp zi co sh lt ts : Int) (mf : Nat → Int32) (x1 : Int32) (hok : okM th tr dp zi co sh lt ts mf) (hp0 : sh ≤ 1999998400) : tz_Met l ⟨"StoryMachineModel", "showName", "(I)V"⟩ tw_tbl rm_Mo_showName (tzP (dC, dI) vcl cI cJ (gsM a th tr dp zi co sh lt ts mf) a (adM a) [.ref (a 0), .int x1] sz) (tq_Q (q_Mo_showName dC dI cI cJ a th tr dp zi co sh lt ts mf x1) (ga (adM a) sz)) 0 0 0 0 (ga (adM a) sz) := by
  refine tz_ofW (cc := prog_13_method_53_code) (maxL := 3) (ret := none) (by decide) (tx_isM mw_1417) ?_
  intro p e s m args below meth c s₁ B hml hv
  obtain ⟨rfl, hsz, hI0, hK, hst0⟩ := hv
  have hx := B.exec
  have hb := B.bytes
  have hr := B.returns
  have hts := atoms_spec (ws := tw_tbl) B.pre
  have hown : s.vm.findClass "StoryMachineModel" = some m.cls := findClass_of_methodNamed B.named
  have hlocks := B.notSynchronized
  subst hsz
  have hst := fun (H : Heap) (locs : List Loc) (hS : va_S (ga (adM a) s.heap.size) s.heap H locs) (U : State) (hU : U.heap = H) (hW : s.WarmedH U.vm) => zS_all adM_map hI0 hst0 hS hU hW
  have hAC : ∀ q ∈ adM a, ga (adM a) s.heap.size q := fun q h => Or.inl h
  have hA0 : ∀ q, s.heap.size ≤ q → ga (adM a) s.heap.size q := fun q h => Or.inr h
  have hI : sI (dC, dI) vcl cI cJ (gsM a th tr dp zi co sh lt ts mf) (ga (adM a) s.heap.size) s.heap s.heap [] := ⟨hI0, va_S.rf⟩
  clear hI0 hst0
  have hl := lv_entry ([.ref (a 0), .int x1]) (n := 3) (Nat.le_of_ble_eq_true rfl)
  rw [lg_entry_eq]
  generalize (lg_sl ([.ref (a 0), .int x1]) ++ List.replicate (3 - (lg_sl ([.ref (a 0), .int x1])).length) Slot.unset).toArray = ls at hl ⊢
  have hl : lv_has ls 3 [(0, .ref (a 0)), (1, .int x1)] := hl
  generalize hZ : tz_MQ below (tq_Q (q_Mo_showName dC dI cI cJ a th tr dp zi co sh lt ts mf x1) (ga (adM a) s.heap.size)) ([.ref (a 0), .int x1] : List Value).toArray s 0 0 0 0 (ga (adM a) s.heap.size) = Z
  obtain ⟨A, hAe⟩ : ∃ A, A = ga (adM a) s.heap.size := ⟨_, rfl⟩
  rw [← hAe] at hst hAC hA0 hI hZ
  refine sv_start hI (fun H locs hI => ?_)
  obtain ⟨⟨o1, o2⟩, ⟨o3, o4⟩, ⟨o5, o6⟩, ⟨o7, o8⟩, ⟨o9, o10⟩, ⟨o11, o12⟩, ⟨o13, o14⟩, ⟨o15, o16⟩, -⟩ := id hok
  have gx1 := sn_rng x1
  refine lv_aload_n hx hb d_Mo_showName_0 rfl (lv_at hl 0 rfl) ?_
  refine lv_aload_n hx hb d_Mo_showName_1 rfl (lv_at hl 0 rfl) ?_
  refine lv_iload_n hx hb d_Mo_showName_2 rfl (lv_at hl 1 rfl) ?_
  refine tz_call (A1 := ga (adM a) H.size) (tz_runV (C := "StoryMachineModel") (As := [.int x1]) (rest := [.ref (a 0)]) ⟨hx, hb, hml, hown, hts⟩ (c_Mo_objectAt l hfl dC dI cI cJ a H.size th tr dp zi co sh lt ts mf x1 hok) (tx_cb (n := 1) hts rfl rfl ⟨Nat.le_of_ble_eq_true rfl, Nat.le_of_ble_eq_true rfl⟩ (tx_code.of (hts _ mw_1329)) (hts _ mw_12) (by decide +kernel) (hts _ mw_1326)) (hts _ mw_1328) (hts _ ms_Mo_objectAt) ⟨tz_blind, sv_recv (q0 := 0) hts in_Mo hK hI kM_0 rfl, fun U hU hW => ⟨rfl, by rw [hU], by rw [hU]; exact hI.1, va_K.moved hW.alike hK, hst _ _ hI.2 U hU hW⟩⟩ rfl rfl hl.1 rfl (lv_room (Nat.le_of_ble_eq_true rfl)) d_Mo_showName_3 ⟨Nat.le_of_ble_eq_true rfl, Nat.le_of_ble_eq_true rfl⟩) hI.2 (fun q _ h => ga_sub hAC hA0 hI.2 q h) (ga_sub hAC hA0 hI.2) (fun v t H1 locs1 ht hWt hpost _ _ hS => ?_) (fun x t H1 locs1 ht hWt hpost _ _ hS => (hpost.2 x rfl).elim)
  rcases hpost.1 _ rfl with ⟨z17, t_tr18, hv, c19, c19_0, c19_1, c19_2, c19_3, hI1⟩ | ⟨z20, hv, c21, c21_0, c21_1, c21_2, c21_3, c21_4, c21_5, hI1⟩
  · cases hv
    have hI : sI (dC, dI) vcl cI cJ (gsM a th t_tr18 dp zi co sh lt ts mf) A s.heap H1 locs1 := ⟨by rw [← ht]; exact hI1, hS⟩
    obtain ⟨-, ⟨o22, o23⟩, -, -, -, -, -, -, -⟩ := id c19
    clear hpost hI1 hS ht hWt
    revert hI; generalize H1 = H; generalize locs1 = locs; intro hI
    refine sn_bipush hx hb d_Mo_showName_6 (by decide) (fun z24 hz24 => ?_)
    refine sn_iadd hx hb d_Mo_showName_8 (by omega) (by omega) (fun z25 hz25 => ?_)
    refine tz_call (A1 := ga (adM a) H.size) (tz_runV (C := "StoryMachineModel") (As := [.int z25]) (rest := []) ⟨hx, hb, hml, hown, hts⟩ (c_Mo_wordAt l hfl dC dI cI cJ a H.size th t_tr18 dp zi co sh lt ts mf z25 c19) (tx_cb (n := 1) hts rfl rfl ⟨Nat.le_of_ble_eq_true rfl, Nat.le_of_ble_eq_true rfl⟩ (tx_code.of (hts _ mw_1252)) (hts _ mw_12) (by decide +kernel) (hts _ mw_1249)) (hts _ mw_1251) (hts _ ms_Mo_wordAt) ⟨tz_blind, sv_recv (q0 := 0) hts in_Mo hK hI kM_0 rfl, fun U hU hW => ⟨rfl, by rw [hU], by rw [hU]; exact hI.1, va_K.moved hW.alike hK, hst _ _ hI.2 U hU hW⟩⟩ rfl rfl hl.1 rfl (lv_room (Nat.le_of_ble_eq_true rfl)) d_Mo_showName_9 ⟨Nat.le_of_ble_eq_true rfl, Nat.le_of_ble_eq_true rfl⟩) hI.2 (fun q _ h => ga_sub hAC hA0 hI.2 q h) (ga_sub hAC hA0 hI.2) (fun v t H1 locs1 ht hWt hpost _ _ hS => ?_) (fun x t H1 locs1 ht hWt hpost _ _ hS => (hpost.2 x rfl).elim)
    rcases hpost.1 _ rfl with ⟨z26, t_tr27, hv, c28, c28_0, c28_1, c28_2, hI1⟩ | ⟨z29, hv, c30, c30_0, c30_1, c30_2, c30_3, c30_4, hI1⟩
    · cases hv
      have hI : sI (dC, dI) vcl cI cJ (gsM a th t_tr27 dp zi co sh lt ts mf) A s.heap H1 locs1 := ⟨by rw [← ht]; exact hI1, hS⟩
      obtain ⟨-, ⟨o31, o32⟩, -, -, -, -, -, -, -⟩ := id c28
      clear hpost hI1 hS ht hWt
      revert hI; generalize H1 = H; generalize locs1 = locs; intro hI
      refine lv_istore_n (lv' := [(2, .int z26), (0, .ref (a 0)), (1, .int x1)]) hx hb d_Mo_showName_12 rfl hl (by decide) rfl (fun ls hl => ?_)
      refine lv_aload_n hx hb d_Mo_showName_13 rfl (lv_at hl 1 rfl) ?_
      refine sv_gete (C := "StoryMachineModel") (T := T_Mo) (N := 51) hx hb hts in_Mo hown hK hI 0 kM_0 rfl 25 (by decide) (hts _ mw_1088) rfl d_Mo_showName_14 (fun z33 hz33 => ?_)
      refine sn_if_ne (tgt := 36) hx hb d_Mo_showName_17 (by decide) (fun b34 => ?_) (fun b34 => ?_)
      · subst hZ
        exact tz_ret (W.vret hx hb hr (fun t ht hW => ⟨⟨fun v9 hv9 => by cases hv9; exact (Or.inl ⟨t_tr27, sh, rfl, c28, by omega, by omega, by rw [ht]; exact hI.1⟩), fun x9 hx9 => (by cases hx9)⟩, hI.2.F ht⟩) hI.2.2.2 d_Mo_showName_36)
      · omega
    · omega
  · cases hv
    have hI : sI (dC, dI) vcl cI cJ (gsM a th tr dp zi co sh lt ts mf) A s.heap H1 locs1 := ⟨by rw [← ht]; exact hI1, hS⟩
    clear hpost hI1 hS ht hWt
    revert hI; generalize H1 = H; generalize locs1 = locs; intro hI
    refine sn_bipush hx hb d_Mo_showName_6 (by decide) (fun z35 hz35 => ?_)
    refine sn_iadd hx hb d_Mo_showName_8 (by omega) (by omega) (fun z36 hz36 => ?_)
    refine tz_call (A1 := ga (adM a) H.size) (tz_runV (C := "StoryMachineModel") (As := [.int z36]) (rest := []) ⟨hx, hb, hml, hown, hts⟩ (c_Mo_wordAt l hfl dC dI cI cJ a H.size th tr dp zi co sh lt ts mf z36 c21) (tx_cb (n := 1) hts rfl rfl ⟨Nat.le_of_ble_eq_true rfl, Nat.le_of_ble_eq_true rfl⟩ (tx_code.of (hts _ mw_1252)) (hts _ mw_12) (by decide +kernel) (hts _ mw_1249)) (hts _ mw_1251) (hts _ ms_Mo_wordAt) ⟨tz_blind, sv_recv (q0 := 0) hts in_Mo hK hI kM_0 rfl, fun U hU hW => ⟨rfl, by rw [hU], by rw [hU]; exact hI.1, va_K.moved hW.alike hK, hst _ _ hI.2 U hU hW⟩⟩ rfl rfl hl.1 rfl (lv_room (Nat.le_of_ble_eq_true rfl)) d_Mo_showName_9 ⟨Nat.le_of_ble_eq_true rfl, Nat.le_of_ble_eq_true rfl⟩) hI.2 (fun q _ h => ga_sub hAC hA0 hI.2 q h) (ga_sub hAC hA0 hI.2) (fun v t H1 locs1 ht hWt hpost _ _ hS => ?_) (fun x t H1 locs1 ht hWt hpost _ _ hS => (hpost.2 x rfl).elim)
    rcases hpost.1 _ rfl with ⟨z37, t_tr38, hv, c39, c39_0, c39_1, c39_2, hI1⟩ | ⟨z40, hv, c41, c41_0, c41_1, c41_2, c41_3, c41_4, hI1⟩
    · cases hv
      have hI : sI (dC, dI) vcl cI cJ (gsM a th t_tr38 dp zi co sh lt ts mf) A s.heap H1 locs1 := ⟨by rw [← ht]; exact hI1, hS⟩
      obtain ⟨-, ⟨o42, o43⟩, -, -, -, -, -, -, -⟩ := id c39
      clear hpost hI1 hS ht hWt
      revert hI; generalize H1 = H; generalize locs1 = locs; intro hI
      refine lv_istore_n (lv' := [(2, .int z37), (0, .ref (a 0)), (1, .int x1)]) hx hb d_Mo_showName_12 rfl hl (by decide) rfl (fun ls hl => ?_)
      refine lv_aload_n hx hb d_Mo_showName_13 rfl (lv_at hl 1 rfl) ?_
      refine sv_gete (C := "StoryMachineModel") (T := T_Mo) (N := 51) hx hb hts in_Mo hown hK hI 0 kM_0 rfl 25 (by decide) (hts _ mw_1088) rfl d_Mo_showName_14 (fun z44 hz44 => ?_)
      refine sn_if_ne (tgt := 36) hx hb d_Mo_showName_17 (by decide) (fun b45 => ?_) (fun b45 => ?_)
      · subst hZ
        exact tz_ret (W.vret hx hb hr (fun t ht hW => ⟨⟨fun v9 hv9 => by cases hv9; exact (Or.inl ⟨t_tr38, sh, rfl, c39, by omega, by omega, by rw [ht]; exact hI.1⟩), fun x9 hx9 => (by cases hx9)⟩, hI.2.F ht⟩) hI.2.2.2 d_Mo_showName_36)
      · omega
    · cases hv
      have hI : sI (dC, dI) vcl cI cJ (gsM a th tr dp zi co sh lt ts mf) A s.heap H1 locs1 := ⟨by rw [← ht]; exact hI1, hS⟩
      clear hpost hI1 hS ht hWt
      revert hI; generalize H1 = H; generalize locs1 = locs; intro hI
      refine lv_istore_n (lv' := [(2, .int z40), (0, .ref (a 0)), (1, .int x1)]) hx hb d_Mo_showName_12 rfl hl (by decide) rfl (fun ls hl => ?_)
      refine lv_aload_n hx hb d_Mo_showName_13 rfl (lv_at hl 1 rfl) ?_
      refine sv_gete (C := "StoryMachineModel") (T := T_Mo) (N := 51) hx hb hts in_Mo hown hK hI 0 kM_0 rfl 25 (by decide) (hts _ mw_1088) rfl d_Mo_showName_14 (fun z46 hz46 => ?_)
      refine sn_if_ne (tgt := 36) hx hb d_Mo_showName_17 (by decide) (fun b47 => ?_) (fun b47 => ?_)
      · omega
      · refine lv_aload_n hx hb d_Mo_showName_20 rfl (lv_at hl 1 rfl) ?_
        refine lv_iload_n hx hb d_Mo_showName_21 rfl (lv_at hl 0 rfl) ?_
        refine tz_call (A1 := ga (adM a) H.size) (tz_runV (C := "StoryMachineModel") (As := [.int z40]) (rest := []) ⟨hx, hb, hml, hown, hts⟩ (c_Mo_byteAt l hfl dC dI cI cJ a H.size th tr dp zi co sh lt ts mf z40 c41) (tx_cb (n := 1) hts rfl rfl ⟨Nat.le_of_ble_eq_true rfl, Nat.le_of_ble_eq_true rfl⟩ (tx_code.of (hts _ mw_1236)) (hts _ mw_12) (by decide +kernel) (hts _ mw_1233)) (hts _ mw_1235) (hts _ ms_Mo_byteAt) ⟨tz_blind, sv_recv (q0 := 0) hts in_Mo hK hI kM_0 rfl, fun U hU hW => ⟨rfl, by rw [hU], by rw [hU]; exact hI.1, va_K.moved hW.alike hK, hst _ _ hI.2 U hU hW⟩⟩ rfl rfl hl.1 rfl (lv_room (Nat.le_of_ble_eq_true rfl)) d_Mo_showName_22 ⟨Nat.le_of_ble_eq_true rfl, Nat.le_of_ble_eq_true rfl⟩) hI.2 (fun q _ h => ga_sub hAC hA0 hI.2 q h) (ga_sub hAC hA0 hI.2) (fun v t H1 locs1 ht hWt hpost _ _ hS => ?_) (fun x t H1 locs1 ht hWt hpost _ _ hS => (hpost.2 x rfl).elim)
        rcases hpost.1 _ rfl with ⟨z48, t_tr49, hv, c50, c50_0, c50_1, c50_2, hI1⟩ | ⟨z51, hv, c52, c52_0, c52_1, c52_2, c52_3, c52_4, hI1⟩
        · cases hv
          have hI : sI (dC, dI) vcl cI cJ (gsM a th t_tr49 dp zi co sh lt ts mf) A s.heap H1 locs1 := ⟨by rw [← ht]; exact hI1, hS⟩
          obtain ⟨-, ⟨o53, o54⟩, -, -, -, -, -, -, -⟩ := id c50
          clear hpost hI1 hS ht hWt
          revert hI; generalize H1 = H; generalize locs1 = locs; intro hI
          refine sn_if_le (tgt := 36) hx hb d_Mo_showName_25 (by decide) (fun b55 => ?_) (fun b55 => ?_)
          · subst hZ
            exact tz_ret (W.vret hx hb hr (fun t ht hW => ⟨⟨fun v9 hv9 => by cases hv9; exact (Or.inl ⟨t_tr49, sh, rfl, c50, by omega, by omega, by rw [ht]; exact hI.1⟩), fun x9 hx9 => (by cases hx9)⟩, hI.2.F ht⟩) hI.2.2.2 d_Mo_showName_36)
          · omega
        · cases hv
          have hI : sI (dC, dI) vcl cI cJ (gsM a th tr dp zi co sh lt ts mf) A s.heap H1 locs1 := ⟨by rw [← ht]; exact hI1, hS⟩
          clear hpost hI1 hS ht hWt
          revert hI; generalize H1 = H; generalize locs1 = locs; intro hI
          refine sn_if_le (tgt := 36) hx hb d_Mo_showName_25 (by decide) (fun b56 => ?_) (fun b56 => ?_)
          · subst hZ
            exact tz_ret (W.vret hx hb hr (fun t ht hW => ⟨⟨fun v9 hv9 => by cases hv9; exact (Or.inr (⟨sh, rfl, c52, by omega, by omega, by omega, by omega, by rw [ht]; exact hI.1⟩)), fun x9 hx9 => (by cases hx9)⟩, hI.2.F ht⟩) hI.2.2.2 d_Mo_showName_36)
          · refine lv_aload_n hx hb d_Mo_showName_28 rfl (lv_at hl 1 rfl) ?_
            refine lv_iload_n hx hb d_Mo_showName_29 rfl (lv_at hl 0 rfl) ?_
            refine sn_iconst hx hb d_Mo_showName_30 (by decide) (fun z57 hz57 => ?_)
            refine sn_iadd hx hb d_Mo_showName_31 (by omega) (by omega) (fun z58 hz58 => ?_)
            refine tz_call (A1 := ga (adM a) H.size) (tz_runV (C := "StoryMachineModel") (As := [.int z58]) (rest := []) ⟨hx, hb, hml, hown, hts⟩ (c_Mo_showText l hfl dC dI cI cJ a H.size th tr dp zi co sh lt ts mf z58 c52 (by omega)) (tx_cb (n := 1) hts rfl rfl ⟨Nat.le_of_ble_eq_true rfl, Nat.le_of_ble_eq_true rfl⟩ (tx_code.of (hts _ mw_1401)) (hts _ mw_12) (by decide +kernel) (hts _ mw_1398)) (hts _ mw_1400) (hts _ ms_Mo_showText) ⟨tz_blind, sv_recv (q0 := 0) hts in_Mo hK hI kM_0 rfl, fun U hU hW => ⟨rfl, by rw [hU], by rw [hU]; exact hI.1, va_K.moved hW.alike hK, hst _ _ hI.2 U hU hW⟩⟩ rfl rfl hl.1 rfl (lv_room (Nat.le_of_ble_eq_true rfl)) d_Mo_showName_32 ⟨Nat.le_of_ble_eq_true rfl, Nat.le_of_ble_eq_true rfl⟩) hI.2 (fun q _ h => ga_sub hAC hA0 hI.2 q h) (ga_sub hAC hA0 hI.2) (fun v t H1 locs1 ht hWt hpost _ _ hS => ?_) (fun x t H1 locs1 ht hWt hpost _ _ hS => (hpost.2 x rfl).elim)
            rcases hpost.1 _ rfl with ⟨z59, t_tr60, t_sh61, hv, c62, c62_0, c62_1, c62_2, c62_3, hI1⟩ | ⟨z63, t_sh64, hv, c65, c65_0, c65_1, c65_2, c65_3, c65_4, c65_5, hI1⟩
            · cases hv
              have hI : sI (dC, dI) vcl cI cJ (gsM a th t_tr60 dp zi co t_sh61 lt ts mf) A s.heap H1 locs1 := ⟨by rw [← ht]; exact hI1, hS⟩
              obtain ⟨-, ⟨o66, o67⟩, -, -, -, ⟨o68, o69⟩, -, -, -⟩ := id c62
              clear hpost hI1 hS ht hWt
              revert hI; generalize H1 = H; generalize locs1 = locs; intro hI
              refine lv_pop hx hb d_Mo_showName_35 rfl ?_
              subst hZ
              exact tz_ret (W.vret hx hb hr (fun t ht hW => ⟨⟨fun v9 hv9 => by cases hv9; exact (Or.inl ⟨t_tr60, t_sh61, rfl, c62, by omega, by omega, by rw [ht]; exact hI.1⟩), fun x9 hx9 => (by cases hx9)⟩, hI.2.F ht⟩) hI.2.2.2 d_Mo_showName_36)
            · cases hv
              have hI : sI (dC, dI) vcl cI cJ (gsM a th tr dp zi co t_sh64 lt ts mf) A s.heap H1 locs1 := ⟨by rw [← ht]; exact hI1, hS⟩
              obtain ⟨-, -, -, -, -, ⟨o70, o71⟩, -, -, -⟩ := id c65
              clear hpost hI1 hS ht hWt
              revert hI; generalize H1 = H; generalize locs1 = locs; intro hI
              refine lv_pop hx hb d_Mo_showName_35 rfl ?_
              subst hZ
              exact tz_ret (W.vret hx hb hr (fun t ht hW => ⟨⟨fun v9 hv9 => by cases hv9; exact (Or.inr (⟨t_sh64, rfl, c65, by omega, by omega, by omega, by omega, by rw [ht]; exact hI.1⟩)), fun x9 hx9 => (by cases hx9)⟩, hI.2.F ht⟩) hI.2.2.2 d_Mo_showName_36)
