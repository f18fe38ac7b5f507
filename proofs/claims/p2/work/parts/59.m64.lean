abbrev q_Mo_step (dC : Nat → ClassId) (dI : Nat → Nat → Nat) (cI cJ : ClassId) (a : Nat → Nat) (th tr dp zi co sh lt ts : Int) (mf : Nat → Int32) : Outcome → State → Prop := fun o t => (∀ v, o = .returned v → ((∃ (tr_ dp_ zi_ co_ sh_ lt_ : Int) (mf_ : Nat → Int32), v = none ∧ okM th tr_ dp_ zi_ co_ sh_ lt_ ts mf_ ∧ (1 ≤ tr_) ∧ (sh_ ≤ sh + 10010) ∧ sh_I (dC, dI) vcl cI cJ (gsM a th tr_ dp_ zi_ co_ sh_ lt_ ts mf_) t.heap) ∨ (∃ (tr_ dp_ zi_ co_ sh_ lt_ : Int) (mf_ : Nat → Int32), v = none ∧ okM th tr_ dp_ zi_ co_ sh_ lt_ ts mf_ ∧ (tr_ ≤ 0) ∧ (sh_ ≤ sh + 10010) ∧ sh_I (dC, dI) vcl cI cJ (gsM a th tr_ dp_ zi_ co_ sh_ lt_ ts mf_) t.heap))) ∧ (∀ x, o = .threw x → (False))
def rm_Mo_step : Room := { frames := 10, cells := 0, slots := 0, locals := 229 }
set_option maxHeartbeats 4000000 in
set_option maxRecDepth 100000 in
theorem c_Mo_step (l : Launch) (hfl : l.flags = pinnedFlags ++ [noTraceFlag]) (dC : Nat → ClassId) (dI : Nat → Nat → Nat) (cI cJ : ClassId) (a : Nat → Nat) (sz : Nat) (th tr dp zi co sh lt ts : Int) (mf : Nat → Int32) (hok : okM th tr dp zi co sh lt ts mf) (hp0 : sh ≤ 1999989990) : tz_Met l ⟨"StoryMachineModel", "step", "()V"⟩ tw_tbl rm_Mo_step (tzP (dC, dI) vcl cI cJ (gsM a th tr dp zi co sh lt ts mf) a (adM a) [.ref (a 0)] sz) (tq_Q (q_Mo_step dC dI cI cJ a th tr dp zi co sh lt ts mf) (ga (adM a) sz)) 0 0 0 0 (ga (adM a) sz) := by
  refine tz_ofW (cc := prog_13_method_71_code) (maxL := 6) (ret := none) (by decide) (tx_isM mw_1228) ?_
  intro p e s m args below meth c s₁ B hml hv
  obtain ⟨rfl, hsz, hI0, hK, hst0⟩ := hv
  have hx := B.exec
  have hb := B.bytes
  have hr := B.returns
  have hts := atoms_spec (ws := tw_tbl) B.pre
  have hown : s.vm.findClass "StoryMachineModel" = some m.cls := findClass_of_methodNamed B.named
  have hlocks := B.notSynchronized
  subst hsz
  have hst := fun (H : Heap) (locs : List Loc) (hS : va_S (ga (adM a) s.heap.size) s.heap H locs) (U : State) (hU : U.heap = H) (hW : s.WarmedH U.vm) => zS_all adM_map hI0 hst0 hS hU hW
  have hAC : ∀ q ∈ adM a, ga (adM a) s.heap.size q := fun q h => Or.inl h
  have hA0 : ∀ q, s.heap.size ≤ q → ga (adM a) s.heap.size q := fun q h => Or.inr h
  have hI : sI (dC, dI) vcl cI cJ (gsM a th tr dp zi co sh lt ts mf) (ga (adM a) s.heap.size) s.heap s.heap [] := ⟨hI0, va_S.rf⟩
  clear hI0 hst0
  have hl := lv_entry ([.ref (a 0)]) (n := 6) (Nat.le_of_ble_eq_true rfl)
  rw [lg_entry_eq]
  generalize (lg_sl ([.ref (a 0)]) ++ List.replicate (6 - (lg_sl ([.ref (a 0)])).length) Slot.unset).toArray = ls at hl ⊢
  have hl : lv_has ls 6 [(0, .ref (a 0))] := hl
  generalize hZ : tz_MQ below (tq_Q (q_Mo_step dC dI cI cJ a th tr dp zi co sh lt ts mf) (ga (adM a) s.heap.size)) ([.ref (a 0)] : List Value).toArray s 0 0 0 0 (ga (adM a) s.heap.size) = Z
  obtain ⟨A, hAe⟩ : ∃ A, A = ga (adM a) s.heap.size := ⟨_, rfl⟩
  rw [← hAe] at hst hAC hA0 hI hZ
  refine sv_start hI (fun H locs hI => ?_)
  obtain ⟨⟨o1, o2⟩, ⟨o3, o4⟩, ⟨o5, o6⟩, ⟨o7, o8⟩, ⟨o9, o10⟩, ⟨o11, o12⟩, ⟨o13, o14⟩, ⟨o15, o16⟩, -⟩ := id hok
  have j240p : ∀ (H : Heap) (locs : List Loc) (ls : Array Slot) (v240p_1 v240p_2 v240p_3 v240p_4 v240p_5 : Int32) (t240p_tr t240p_dp t240p_zi t240p_co t240p_sh t240p_lt : Int) (t240p_mf : Nat → Int32), sI (dC, dI) vcl cI cJ (gsM a th t240p_tr t240p_dp t240p_zi t240p_co t240p_sh t240p_lt ts t240p_mf) A s.heap H locs → okM th t240p_tr t240p_dp t240p_zi t240p_co t240p_sh t240p_lt ts t240p_mf → 0 ≤ v240p_1.toInt → v240p_1.toInt ≤ 255 → 0 ≤ v240p_2.toInt → v240p_2.toInt ≤ 3 → 0 ≤ v240p_3.toInt → v240p_3.toInt ≤ 31 → 0 ≤ v240p_4.toInt → v240p_4.toInt ≤ 65535 → 0 ≤ v240p_5.toInt → v240p_5.toInt ≤ 65535 → 1 ≤ t240p_tr → t240p_tr ≤ 4 → t240p_sh ≤ sh + 10010 → lv_has ls 6 [(0, .ref (a 0)), (1, .int v240p_1), (2, .int v240p_2), (3, .int v240p_3), (4, .int v240p_4), (5, .int v240p_5)] → W p l e (headSpec tw_tbl rm_Mo_step).room s m ([.ref (a 0)] : List Value).toArray below meth c H locs 0 0 Z (F0 m 240 ls []) := by
    intro H locs ls v240p_1 v240p_2 v240p_3 v240p_4 v240p_5 t240p_tr t240p_dp t240p_zi t240p_co t240p_sh t240p_lt t240p_mf hI hok g240_0 g240_1 g240_2 g240_3 g240_4 g240_5 g240_6 g240_7 g240_8 g240_9 g240_10 g240_11 g240_12 hl
    obtain ⟨⟨o17, o18⟩, ⟨o19, o20⟩, ⟨o21, o22⟩, ⟨o23, o24⟩, ⟨o25, o26⟩, ⟨o27, o28⟩, ⟨o29, o30⟩, ⟨o31, o32⟩, -⟩ := id hok
    refine lv_aload_n hx hb d_Mo_step_240 rfl (lv_at hl 0 rfl) ?_
    refine sv_gete (C := "StoryMachineModel") (T := T_Mo) (N := 51) hx hb hts in_Mo hown hK hI 0 kM_0 rfl 25 (by decide) (hts _ mw_1088) rfl d_Mo_step_241 (fun z33 hz33 => ?_)
    refine sn_if_le (tgt := 248) hx hb d_Mo_step_244 (by decide) (fun b34 => ?_) (fun b34 => ?_)
    · omega
    · subst hZ
      exact tz_ret (W.vret hx hb hr (fun t ht hW => ⟨⟨fun v9 hv9 => by cases hv9; exact (Or.inl ⟨t240p_tr, t240p_dp, t240p_zi, t240p_co, t240p_sh, t240p_lt, t240p_mf, rfl, hok, by omega, by omega, by rw [ht]; exact hI.1⟩), fun x9 hx9 => (by cases hx9)⟩, hI.2.F ht⟩) hI.2.2.2 d_Mo_step_247)
  have j240z : ∀ (H : Heap) (locs : List Loc) (ls : Array Slot) (v240z_1 v240z_2 v240z_3 v240z_4 v240z_5 : Int32) (t240z_tr t240z_dp t240z_zi t240z_co t240z_sh t240z_lt : Int) (t240z_mf : Nat → Int32), sI (dC, dI) vcl cI cJ (gsM a th t240z_tr t240z_dp t240z_zi t240z_co t240z_sh t240z_lt ts t240z_mf) A s.heap H locs → okM th t240z_tr t240z_dp t240z_zi t240z_co t240z_sh t240z_lt ts t240z_mf → 0 ≤ v240z_1.toInt → v240z_1.toInt ≤ 255 → 0 ≤ v240z_2.toInt → v240z_2.toInt ≤ 3 → 0 ≤ v240z_3.toInt → v240z_3.toInt ≤ 31 → 0 ≤ v240z_4.toInt → v240z_4.toInt ≤ 65535 → 0 ≤ v240z_5.toInt → v240z_5.toInt ≤ 65535 → 0 ≤ t240z_tr → t240z_tr ≤ 0 → t240z_sh ≤ sh + 10010 → lv_has ls 6 [(0, .ref (a 0)), (1, .int v240z_1), (2, .int v240z_2), (3, .int v240z_3), (4, .int v240z_4), (5, .int v240z_5)] → W p l e (headSpec tw_tbl rm_Mo_step).room s m ([.ref (a 0)] : List Value).toArray below meth c H locs 0 0 Z (F0 m 240 ls []) := by
    intro H locs ls v240z_1 v240z_2 v240z_3 v240z_4 v240z_5 t240z_tr t240z_dp t240z_zi t240z_co t240z_sh t240z_lt t240z_mf hI hok g240_0 g240_1 g240_2 g240_3 g240_4 g240_5 g240_6 g240_7 g240_8 g240_9 g240_10 g240_11 g240_12 hl
    obtain ⟨⟨o35, o36⟩, ⟨o37, o38⟩, ⟨o39, o40⟩, ⟨o41, o42⟩, ⟨o43, o44⟩, ⟨o45, o46⟩, ⟨o47, o48⟩, ⟨o49, o50⟩, -⟩ := id hok
    refine lv_aload_n hx hb d_Mo_step_240 rfl (lv_at hl 0 rfl) ?_
    refine sv_gete (C := "StoryMachineModel") (T := T_Mo) (N := 51) hx hb hts in_Mo hown hK hI 0 kM_0 rfl 25 (by decide) (hts _ mw_1088) rfl d_Mo_step_241 (fun z51 hz51 => ?_)
    refine sn_if_le (tgt := 248) hx hb d_Mo_step_244 (by decide) (fun b52 => ?_) (fun b52 => ?_)
    · refine lv_aload_n hx hb d_Mo_step_248 rfl (lv_at hl 0 rfl) ?_
      refine lv_aload_n hx hb d_Mo_step_249 rfl (lv_at hl 0 rfl) ?_
      refine sv_get (C := "StoryMachineModel") (T := T_Mo) (N := 51) hx hb hts in_Mo hown hK hI 0 kM_0 rfl 28 (by decide) (hts _ mw_1091) rfl d_Mo_step_250 (fun z53 hz53a hz53b => ?_)
      refine sv_put (C := "StoryMachineModel") (T := T_Mo) (N := 51) (ty := .int) hx hb hts in_Mo t_Mo tk_Mo nm_Mo hown hK (sh_in adM_map hAC) hI 0 kM_0 rfl 27 (by decide) (hts _ mw_1090) rfl (by decide +kernel) rfl rfl (Nat.le_of_ble_eq_true rfl) (by omega) (by omega) pM_0_27 d_Mo_step_253 (fun H locs hI => ?_)
      refine lv_aload_n hx hb d_Mo_step_256 rfl (lv_at hl 0 rfl) ?_
      refine lv_dup hx hb d_Mo_step_257 rfl ?_
      refine sv_get (C := "StoryMachineModel") (T := T_Mo) (N := 51) hx hb hts in_Mo hown hK hI 0 kM_0 rfl 29 (by decide) (hts _ mw_1092) rfl d_Mo_step_258 (fun z54 hz54a hz54b => ?_)
      refine sn_iconst hx hb d_Mo_step_261 (by decide) (fun z55 hz55 => ?_)
      refine sn_iaddT hx hb d_Mo_step_262 (fun z56 hz56a hz56b => ?_)
      refine sv_put (C := "StoryMachineModel") (T := T_Mo) (N := 51) (ty := .int) hx hb hts in_Mo t_Mo tk_Mo nm_Mo hown hK (sh_in adM_map hAC) hI 0 kM_0 rfl 29 (by decide) (hts _ mw_1092) rfl (by decide +kernel) rfl rfl (Nat.le_of_ble_eq_true rfl) (by omega) (by omega) pM_0_29 d_Mo_step_263 (fun H locs hI => ?_)
      subst hZ
      exact tz_ret (W.vret hx hb hr (fun t ht hW => ⟨⟨fun v9 hv9 => by cases hv9; exact (Or.inr (⟨t240z_tr, t240z_dp, t240z_zi, t240z_co, t240z_sh, t240z_lt, t240z_mf, rfl, hok, by omega, by omega, by rw [ht]; exact hI.1⟩)), fun x9 hx9 => (by cases hx9)⟩, hI.2.F ht⟩) hI.2.2.2 d_Mo_step_266)
    · omega
  have j78z : ∀ (H : Heap) (locs : List Loc) (ls : Array Slot) (v78z_1 v78z_2 : Int32) (t78z_tr t78z_zi t78z_co : Int), sI (dC, dI) vcl cI cJ (gsM a th t78z_tr dp t78z_zi t78z_co sh lt ts mf) A s.heap H locs → okM th t78z_tr dp t78z_zi t78z_co sh lt ts mf → 0 ≤ v78z_1.toInt → v78z_1.toInt ≤ 255 → 0 ≤ v78z_2.toInt → v78z_2.toInt ≤ 3 → 0 ≤ t78z_tr → t78z_tr ≤ 0 → sh ≤ sh + 10010 → lv_has ls 6 [(0, .ref (a 0)), (1, .int v78z_1), (2, .int v78z_2)] → W p l e (headSpec tw_tbl rm_Mo_step).room s m ([.ref (a 0)] : List Value).toArray below meth c H locs 0 0 Z (F0 m 78 ls []) := by
    intro H locs ls v78z_1 v78z_2 t78z_tr t78z_zi t78z_co hI hok g78_0 g78_1 g78_2 g78_3 g78_4 g78_5 g78_6 hl
    obtain ⟨⟨o57, o58⟩, ⟨o59, o60⟩, ⟨o61, o62⟩, ⟨o63, o64⟩, ⟨o65, o66⟩, ⟨o67, o68⟩, ⟨o69, o70⟩, ⟨o71, o72⟩, -⟩ := id hok
    refine lv_iload_n hx hb d_Mo_step_78 rfl (lv_at hl 1 rfl) ?_
    refine sn_bipush hx hb d_Mo_step_79 (by decide) (fun z73 hz73 => ?_)
    refine sn_irem (k := 32) hx hb d_Mo_step_81 (by omega) (by omega) (by omega) (fun z74 hz74 => ?_)
    refine lv_goto (tgt := 89) hx hb d_Mo_step_82 (by decide) ?_
    refine lv_istore_n (lv' := [(3, .int z74), (0, .ref (a 0)), (1, .int v78z_1), (2, .int v78z_2)]) hx hb d_Mo_step_89 rfl hl (by decide) rfl (fun ls hl => ?_)
    refine lv_aload_n hx hb d_Mo_step_90 rfl (lv_at hl 1 rfl) ?_
    refine lv_aload_n hx hb d_Mo_step_91 rfl (lv_at hl 1 rfl) ?_
    refine sv_gete (C := "StoryMachineModel") (T := T_Mo) (N := 51) hx hb hts in_Mo hown hK hI 0 kM_0 rfl 38 (by decide) (hts _ mw_1101) rfl d_Mo_step_92 (fun z75 hz75 => ?_)
    refine lv_iload_n hx hb d_Mo_step_95 rfl (lv_at hl 3 rfl) ?_
    refine lv_iload_n hx hb d_Mo_step_96 rfl (lv_at hl 0 rfl) ?_
    refine tz_call (A1 := ga (adM a) H.size) (tz_runS (As := [.int v78z_2, .int z74]) (rest := [.int z75, .ref (a 0)]) ⟨hx, hb, hml, hown, hts⟩ (c_Mo_least l hfl dC dI cI cJ a H.size th t78z_tr dp t78z_zi t78z_co sh lt ts mf v78z_2 z74 hok) (tx_cb (n := 2) hts rfl rfl ⟨Nat.le_of_ble_eq_true rfl, Nat.le_of_ble_eq_true rfl⟩ (tx_code.of (hts _ mw_1270)) (hts _ mw_12) (by decide +kernel) (hts _ mw_1268)) (hts _ mw_1269) ⟨tz_blind, fun U hU hW => ⟨rfl, by rw [hU], by rw [hU]; exact hI.1, va_K.moved hW.alike hK, hst _ _ hI.2 U hU hW⟩⟩ rfl rfl hl.1 rfl (lv_room (Nat.le_of_ble_eq_true rfl)) d_Mo_step_97 ⟨Nat.le_of_ble_eq_true rfl, Nat.le_of_ble_eq_true rfl⟩) hI.2 (fun q _ h => ga_sub hAC hA0 hI.2 q h) (ga_sub hAC hA0 hI.2) (fun v t H1 locs1 ht hWt hpost _ _ hS => ?_) (fun x t H1 locs1 ht hWt hpost _ _ hS => (hpost.2 x rfl).elim)
    rcases hpost.1 _ rfl with ⟨z76, hv, c77, c77_0, c77_1, hI1⟩
    cases hv
    have hI : sI (dC, dI) vcl cI cJ (gsM a th t78z_tr dp t78z_zi t78z_co sh lt ts mf) A s.heap H1 locs1 := ⟨by rw [← ht]; exact hI1, hS⟩
    clear hpost hI1 hS ht hWt
    revert hI; generalize H1 = H; generalize locs1 = locs; intro hI
    refine sn_icmp_lt (tgt := 107) hx hb d_Mo_step_100 (by decide) (fun b78 => ?_) (fun b78 => ?_)
    · refine sn_iconst hx hb d_Mo_step_107 (by decide) (fun z79 hz79 => ?_)
      refine sn_iconst hx hb d_Mo_step_108 (by decide) (fun z80 hz80 => ?_)
      refine tz_call (A1 := ga (adM a) H.size) (tz_runV (C := "StoryMachineModel") (As := [.int z79, .int z80]) (rest := []) ⟨hx, hb, hml, hown, hts⟩ (c_Mo_good l hfl dC dI cI cJ a H.size th t78z_tr dp t78z_zi t78z_co sh lt ts mf z79 z80 c77 (by omega) (by omega) (by omega) (by omega)) (tx_cb (n := 2) hts rfl rfl ⟨Nat.le_of_ble_eq_true rfl, Nat.le_of_ble_eq_true rfl⟩ (tx_code.of (hts _ mw_1240)) (hts _ mw_12) (by decide +kernel) (hts _ mw_1237)) (hts _ mw_1239) (hts _ ms_Mo_good) ⟨tz_blind, sv_recv (q0 := 0) hts in_Mo hK hI kM_0 rfl, fun U hU hW => ⟨rfl, by rw [hU], by rw [hU]; exact hI.1, va_K.moved hW.alike hK, hst _ _ hI.2 U hU hW⟩⟩ rfl rfl hl.1 rfl (lv_room (Nat.le_of_ble_eq_true rfl)) d_Mo_step_109 ⟨Nat.le_of_ble_eq_true rfl, Nat.le_of_ble_eq_true rfl⟩) hI.2 (fun q _ h => ga_sub hAC hA0 hI.2 q h) (ga_sub hAC hA0 hI.2) (fun v t H1 locs1 ht hWt hpost _ _ hS => ?_) (fun x t H1 locs1 ht hWt hpost _ _ hS => (hpost.2 x rfl).elim)
      rcases hpost.1 _ rfl with ⟨z81, t_tr82, hv, c83, c83_0, c83_1, c83_2, c83_3, hI1⟩ | ⟨z84, hv, c85, c85_0, c85_1, c85_2, c85_3, hI1⟩
      · cases hv
        have hI : sI (dC, dI) vcl cI cJ (gsM a th t_tr82 dp t78z_zi t78z_co sh lt ts mf) A s.heap H1 locs1 := ⟨by rw [← ht]; exact hI1, hS⟩
        obtain ⟨-, ⟨o86, o87⟩, -, -, -, -, -, -, -⟩ := id c83
        clear hpost hI1 hS ht hWt
        revert hI; generalize H1 = H; generalize locs1 = locs; intro hI
        refine sn_if_ne (tgt := 116) hx hb d_Mo_step_112 (by decide) (fun b88 => ?_) (fun b88 => ?_)
        · omega
        · subst hZ
          exact tz_ret (W.vret hx hb hr (fun t ht hW => ⟨⟨fun v9 hv9 => by cases hv9; exact (Or.inl ⟨t_tr82, dp, t78z_zi, t78z_co, sh, lt, mf, rfl, c83, by omega, by omega, by rw [ht]; exact hI.1⟩), fun x9 hx9 => (by cases hx9)⟩, hI.2.F ht⟩) hI.2.2.2 d_Mo_step_115)
      · omega
    · refine sn_iconst hx hb d_Mo_step_103 (by decide) (fun z89 hz89 => ?_)
      refine lv_goto (tgt := 108) hx hb d_Mo_step_104 (by decide) ?_
      refine sn_iconst hx hb d_Mo_step_108 (by decide) (fun z90 hz90 => ?_)
      refine tz_call (A1 := ga (adM a) H.size) (tz_runV (C := "StoryMachineModel") (As := [.int z89, .int z90]) (rest := []) ⟨hx, hb, hml, hown, hts⟩ (c_Mo_good l hfl dC dI cI cJ a H.size th t78z_tr dp t78z_zi t78z_co sh lt ts mf z89 z90 c77 (by omega) (by omega) (by omega) (by omega)) (tx_cb (n := 2) hts rfl rfl ⟨Nat.le_of_ble_eq_true rfl, Nat.le_of_ble_eq_true rfl⟩ (tx_code.of (hts _ mw_1240)) (hts _ mw_12) (by decide +kernel) (hts _ mw_1237)) (hts _ mw_1239) (hts _ ms_Mo_good) ⟨tz_blind, sv_recv (q0 := 0) hts in_Mo hK hI kM_0 rfl, fun U hU hW => ⟨rfl, by rw [hU], by rw [hU]; exact hI.1, va_K.moved hW.alike hK, hst _ _ hI.2 U hU hW⟩⟩ rfl rfl hl.1 rfl (lv_room (Nat.le_of_ble_eq_true rfl)) d_Mo_step_109 ⟨Nat.le_of_ble_eq_true rfl, Nat.le_of_ble_eq_true rfl⟩) hI.2 (fun q _ h => ga_sub hAC hA0 hI.2 q h) (ga_sub hAC hA0 hI.2) (fun v t H1 locs1 ht hWt hpost _ _ hS => ?_) (fun x t H1 locs1 ht hWt hpost _ _ hS => (hpost.2 x rfl).elim)
      rcases hpost.1 _ rfl with ⟨z91, t_tr92, hv, c93, c93_0, c93_1, c93_2, c93_3, hI1⟩ | ⟨z94, hv, c95, c95_0, c95_1, c95_2, c95_3, hI1⟩
      · cases hv
        have hI : sI (dC, dI) vcl cI cJ (gsM a th t_tr92 dp t78z_zi t78z_co sh lt ts mf) A s.heap H1 locs1 := ⟨by rw [← ht]; exact hI1, hS⟩
        obtain ⟨-, ⟨o96, o97⟩, -, -, -, -, -, -, -⟩ := id c93
        clear hpost hI1 hS ht hWt
        revert hI; generalize H1 = H; generalize locs1 = locs; intro hI
        refine sn_if_ne (tgt := 116) hx hb d_Mo_step_112 (by decide) (fun b98 => ?_) (fun b98 => ?_)
        · omega
        · subst hZ
          exact tz_ret (W.vret hx hb hr (fun t ht hW => ⟨⟨fun v9 hv9 => by cases hv9; exact (Or.inl ⟨t_tr92, dp, t78z_zi, t78z_co, sh, lt, mf, rfl, c93, by omega, by omega, by rw [ht]; exact hI.1⟩), fun x9 hx9 => (by cases hx9)⟩, hI.2.F ht⟩) hI.2.2.2 d_Mo_step_115)
      · cases hv
        have hI : sI (dC, dI) vcl cI cJ (gsM a th t78z_tr dp t78z_zi t78z_co sh lt ts mf) A s.heap H1 locs1 := ⟨by rw [← ht]; exact hI1, hS⟩
        clear hpost hI1 hS ht hWt
        revert hI; generalize H1 = H; generalize locs1 = locs; intro hI
        refine sn_if_ne (tgt := 116) hx hb d_Mo_step_112 (by decide) (fun b99 => ?_) (fun b99 => ?_)
        · refine lv_aload_n hx hb d_Mo_step_116 rfl (lv_at hl 1 rfl) ?_
          refine lv_iload_n hx hb d_Mo_step_117 rfl (lv_at hl 3 rfl) ?_
          refine lv_iload_n hx hb d_Mo_step_118 rfl (lv_at hl 0 rfl) ?_
          refine tz_call (A1 := ga (adM a) H.size) (tz_runV (C := "StoryMachineModel") (As := [.int v78z_2, .int z74]) (rest := []) ⟨hx, hb, hml, hown, hts⟩ (c_Mo_readRest l hfl dC dI cI cJ a H.size th t78z_tr dp t78z_zi t78z_co sh lt ts mf v78z_2 z74 c95) (tx_cb (n := 2) hts rfl rfl ⟨Nat.le_of_ble_eq_true rfl, Nat.le_of_ble_eq_true rfl⟩ (tx_code.of (hts _ mw_1274)) (hts _ mw_12) (by decide +kernel) (hts _ mw_1271)) (hts _ mw_1273) (hts _ ms_Mo_readRest) ⟨tz_blind, sv_recv (q0 := 0) hts in_Mo hK hI kM_0 rfl, fun U hU hW => ⟨rfl, by rw [hU], by rw [hU]; exact hI.1, va_K.moved hW.alike hK, hst _ _ hI.2 U hU hW⟩⟩ rfl rfl hl.1 rfl (lv_room (Nat.le_of_ble_eq_true rfl)) d_Mo_step_119 ⟨Nat.le_of_ble_eq_true rfl, Nat.le_of_ble_eq_true rfl⟩) hI.2 (fun q _ h => ga_sub hAC hA0 hI.2 q h) (ga_sub hAC hA0 hI.2) (fun v t H1 locs1 ht hWt hpost _ _ hS => ?_) (fun x t H1 locs1 ht hWt hpost _ _ hS => (hpost.2 x rfl).elim)
          rcases hpost.1 _ rfl with ⟨t_tr100, hv, c101, c101_0, hI1⟩ | ⟨hv, c102, c102_0, hI1⟩
          · cases hv
            have hI : sI (dC, dI) vcl cI cJ (gsM a th t_tr100 dp t78z_zi t78z_co sh lt ts mf) A s.heap H1 locs1 := ⟨by rw [← ht]; exact hI1, hS⟩
            obtain ⟨-, ⟨o103, o104⟩, -, -, -, -, -, -, -⟩ := id c101
            clear hpost hI1 hS ht hWt
            revert hI; generalize H1 = H; generalize locs1 = locs; intro hI
            refine lv_aload_n hx hb d_Mo_step_122 rfl (lv_at hl 1 rfl) ?_
            refine sv_gete (C := "StoryMachineModel") (T := T_Mo) (N := 51) hx hb hts in_Mo hown hK hI 0 kM_0 rfl 25 (by decide) (hts _ mw_1088) rfl d_Mo_step_123 (fun z105 hz105 => ?_)
            refine sn_if_le (tgt := 130) hx hb d_Mo_step_126 (by decide) (fun b106 => ?_) (fun b106 => ?_)
            · omega
            · subst hZ
              exact tz_ret (W.vret hx hb hr (fun t ht hW => ⟨⟨fun v9 hv9 => by cases hv9; exact (Or.inl ⟨t_tr100, dp, t78z_zi, t78z_co, sh, lt, mf, rfl, c101, by omega, by omega, by rw [ht]; exact hI.1⟩), fun x9 hx9 => (by cases hx9)⟩, hI.2.F ht⟩) hI.2.2.2 d_Mo_step_129)
          · cases hv
            have hI : sI (dC, dI) vcl cI cJ (gsM a th t78z_tr dp t78z_zi t78z_co sh lt ts mf) A s.heap H1 locs1 := ⟨by rw [← ht]; exact hI1, hS⟩
            clear hpost hI1 hS ht hWt
            revert hI; generalize H1 = H; generalize locs1 = locs; intro hI
            refine lv_aload_n hx hb d_Mo_step_122 rfl (lv_at hl 1 rfl) ?_
            refine sv_gete (C := "StoryMachineModel") (T := T_Mo) (N := 51) hx hb hts in_Mo hown hK hI 0 kM_0 rfl 25 (by decide) (hts _ mw_1088) rfl d_Mo_step_123 (fun z107 hz107 => ?_)
            refine sn_if_le (tgt := 130) hx hb d_Mo_step_126 (by decide) (fun b108 => ?_) (fun b108 => ?_)
            · refine lv_aload_n hx hb d_Mo_step_130 rfl (lv_at hl 1 rfl) ?_
              refine sv_gete (C := "StoryMachineModel") (T := T_Mo) (N := 51) hx hb hts in_Mo hown hK hI 0 kM_0 rfl 38 (by decide) (hts _ mw_1101) rfl d_Mo_step_131 (fun z109 hz109 => ?_)
              refine sn_if_le (tgt := 146) hx hb d_Mo_step_134 (by decide) (fun b110 => ?_) (fun b110 => ?_)
              · refine sn_iconst hx hb d_Mo_step_146 (by decide) (fun z111 hz111 => ?_)
                refine lv_istore (lv' := [(4, .int z111), (3, .int z74), (0, .ref (a 0)), (1, .int v78z_1), (2, .int v78z_2)]) hx hb d_Mo_step_147 hl (by decide) rfl (fun ls hl => ?_)
                refine lv_aload_n hx hb d_Mo_step_149 rfl (lv_at hl 2 rfl) ?_
                refine sv_gete (C := "StoryMachineModel") (T := T_Mo) (N := 51) hx hb hts in_Mo hown hK hI 0 kM_0 rfl 38 (by decide) (hts _ mw_1101) rfl d_Mo_step_150 (fun z112 hz112 => ?_)
                refine sn_iconst hx hb d_Mo_step_153 (by decide) (fun z113 hz113 => ?_)
                refine sn_icmp_le (tgt := 166) hx hb d_Mo_step_154 (by decide) (fun b114 => ?_) (fun b114 => ?_)
                · refine sn_iconst hx hb d_Mo_step_166 (by decide) (fun z115 hz115 => ?_)
                  refine lv_istore (lv' := [(5, .int z115), (4, .int z111), (3, .int z74), (0, .ref (a 0)), (1, .int v78z_1), (2, .int v78z_2)]) hx hb d_Mo_step_167 hl (by decide) rfl (fun ls hl => ?_)
                  refine lv_iload_n hx hb d_Mo_step_169 rfl (lv_at hl 5 rfl) ?_
                  refine sn_if_ne (tgt := 185) hx hb d_Mo_step_170 (by decide) (fun b116 => ?_) (fun b116 => ?_)
                  · refine lv_iload_n hx hb d_Mo_step_185 rfl (lv_at hl 5 rfl) ?_
                    refine sn_iconst hx hb d_Mo_step_186 (by decide) (fun z117 hz117 => ?_)
                    refine sn_icmp_ne (tgt := 200) hx hb d_Mo_step_187 (by decide) (fun b118 => ?_) (fun b118 => ?_)
                    · refine lv_iload_n hx hb d_Mo_step_200 rfl (lv_at hl 5 rfl) ?_
                      refine sn_iconst hx hb d_Mo_step_201 (by decide) (fun z119 hz119 => ?_)
                      refine sn_icmp_ne (tgt := 213) hx hb d_Mo_step_202 (by decide) (fun b120 => ?_) (fun b120 => ?_)
                      · refine lv_aload_n hx hb d_Mo_step_213 rfl (lv_at hl 3 rfl) ?_
                        refine lv_iload_n hx hb d_Mo_step_214 rfl (lv_at hl 2 rfl) ?_
                        refine lv_iload hx hb d_Mo_step_215 (lv_at hl 1 rfl) ?_
                        refine lv_iload hx hb d_Mo_step_217 (lv_at hl 0 rfl) ?_
                        refine lv_aload_n hx hb d_Mo_step_219 rfl (lv_at hl 3 rfl) ?_
                        refine sv_gete (C := "StoryMachineModel") (T := T_Mo) (N := 51) hx hb hts in_Mo hown hK hI 0 kM_0 rfl 38 (by decide) (hts _ mw_1101) rfl d_Mo_step_220 (fun z121 hz121 => ?_)
                        refine sn_iconst hx hb d_Mo_step_223 (by decide) (fun z122 hz122 => ?_)
                        refine sn_icmp_le (tgt := 236) hx hb d_Mo_step_224 (by decide) (fun b123 => ?_) (fun b123 => ?_)
                        · refine sn_iconst hx hb d_Mo_step_236 (by decide) (fun z124 hz124 => ?_)
                          refine tz_call (A1 := ga (adM a) H.size) (tz_runV (C := "StoryMachineModel") (As := [.int z74, .int z111, .int z115, .int z124]) (rest := []) ⟨hx, hb, hml, hown, hts⟩ (c_Mo_manyList l hfl dC dI cI cJ a H.size th t78z_tr dp t78z_zi t78z_co sh lt ts mf z74 z111 z115 z124 c102 (by omega) (by omega) (by omega) (by omega) (by omega) (by omega) (by omega) (by omega) (by omega)) (tx_cb (n := 4) hts rfl rfl ⟨Nat.le_of_ble_eq_true rfl, Nat.le_of_ble_eq_true rfl⟩ (tx_code.of (hts _ mw_1440)) (hts _ mw_12) (by decide +kernel) (hts _ mw_1437)) (hts _ mw_1439) (hts _ ms_Mo_manyList) ⟨tz_blind, sv_recv (q0 := 0) hts in_Mo hK hI kM_0 rfl, fun U hU hW => ⟨rfl, by rw [hU], by rw [hU]; exact hI.1, va_K.moved hW.alike hK, hst _ _ hI.2 U hU hW⟩⟩ rfl rfl hl.1 rfl (lv_room (Nat.le_of_ble_eq_true rfl)) d_Mo_step_237 ⟨Nat.le_of_ble_eq_true rfl, Nat.le_of_ble_eq_true rfl⟩) hI.2 (fun q _ h => ga_sub hAC hA0 hI.2 q h) (ga_sub hAC hA0 hI.2) (fun v t H1 locs1 ht hWt hpost _ _ hS => ?_) (fun x t H1 locs1 ht hWt hpost _ _ hS => (hpost.2 x rfl).elim)
                          rcases hpost.1 _ rfl with ⟨t_tr125, t_zi126, t_lt127, f_mf128, hv, c129, c129_0, hI1⟩ | ⟨hv, c130, c130_0, c130_1, hI1⟩ | ⟨t_dp131, t_zi132, t_sh133, t_lt134, f_mf135, hv, c136, c136_0, c136_1, hI1⟩
                          · cases hv
                            have hI : sI (dC, dI) vcl cI cJ (gsM a th t_tr125 dp t_zi126 t78z_co sh t_lt127 ts f_mf128) A s.heap H1 locs1 := ⟨by rw [← ht]; exact hI1, hS⟩
                            obtain ⟨-, ⟨o137, o138⟩, -, ⟨o139, o140⟩, -, -, ⟨o141, o142⟩, -, -⟩ := id c129
                            clear hpost hI1 hS ht hWt
                            revert hI; generalize H1 = H; generalize locs1 = locs; intro hI
                            exact j240p _ _ _ v78z_1 v78z_2 z74 z111 z115 t_tr125 dp t_zi126 t78z_co sh t_lt127 f_mf128 hI c129 (by omega) (by omega) (by omega) (by omega) (by omega) (by omega) (by omega) (by omega) (by omega) (by omega) (by omega) (by omega) (by omega) (lv_sub hl [3, 4, 5, 2, 1, 0] rfl)
                          · cases hv
                            have hI : sI (dC, dI) vcl cI cJ (gsM a th t78z_tr dp t78z_zi t78z_co sh lt ts mf) A s.heap H1 locs1 := ⟨by rw [← ht]; exact hI1, hS⟩
                            clear hpost hI1 hS ht hWt
                            revert hI; generalize H1 = H; generalize locs1 = locs; intro hI
                            exact j240z _ _ _ v78z_1 v78z_2 z74 z111 z115 t78z_tr dp t78z_zi t78z_co sh lt mf hI c130 (by omega) (by omega) (by omega) (by omega) (by omega) (by omega) (by omega) (by omega) (by omega) (by omega) (by omega) (by omega) (by omega) (lv_sub hl [3, 4, 5, 2, 1, 0] rfl)
                          · cases hv
                            have hI : sI (dC, dI) vcl cI cJ (gsM a th t78z_tr t_dp131 t_zi132 t78z_co t_sh133 t_lt134 ts f_mf135) A s.heap H1 locs1 := ⟨by rw [← ht]; exact hI1, hS⟩
                            obtain ⟨-, -, ⟨o143, o144⟩, ⟨o145, o146⟩, -, ⟨o147, o148⟩, ⟨o149, o150⟩, -, -⟩ := id c136
                            clear hpost hI1 hS ht hWt
                            revert hI; generalize H1 = H; generalize locs1 = locs; intro hI
                            exact j240z _ _ _ v78z_1 v78z_2 z74 z111 z115 t78z_tr t_dp131 t_zi132 t78z_co t_sh133 t_lt134 f_mf135 hI c136 (by omega) (by omega) (by omega) (by omega) (by omega) (by omega) (by omega) (by omega) (by omega) (by omega) (by omega) (by omega) (by omega) (lv_sub hl [3, 4, 5, 2, 1, 0] rfl)
                        · omega
                      · refine lv_aload_n hx hb d_Mo_step_205 rfl (lv_at hl 3 rfl) ?_
                        refine lv_iload_n hx hb d_Mo_step_206 rfl (lv_at hl 2 rfl) ?_
                        refine tz_call (A1 := ga (adM a) H.size) (tz_runV (C := "StoryMachineModel") (As := [.int z74]) (rest := []) ⟨hx, hb, hml, hown, hts⟩ (c_Mo_none l hfl dC dI cI cJ a H.size th t78z_tr dp t78z_zi t78z_co sh lt ts mf z74 c102 (by omega) (by omega) (by omega)) (tx_cb (n := 1) hts rfl rfl ⟨Nat.le_of_ble_eq_true rfl, Nat.le_of_ble_eq_true rfl⟩ (tx_code.of (hts _ mw_1421)) (hts _ mw_12) (by decide +kernel) (hts _ mw_1418)) (hts _ mw_1420) (hts _ ms_Mo_none) ⟨tz_blind, sv_recv (q0 := 0) hts in_Mo hK hI kM_0 rfl, fun U hU hW => ⟨rfl, by rw [hU], by rw [hU]; exact hI.1, va_K.moved hW.alike hK, hst _ _ hI.2 U hU hW⟩⟩ rfl rfl hl.1 rfl (lv_room (Nat.le_of_ble_eq_true rfl)) d_Mo_step_207 ⟨Nat.le_of_ble_eq_true rfl, Nat.le_of_ble_eq_true rfl⟩) hI.2 (fun q _ h => ga_sub hAC hA0 hI.2 q h) (ga_sub hAC hA0 hI.2) (fun v t H1 locs1 ht hWt hpost _ _ hS => ?_) (fun x t H1 locs1 ht hWt hpost _ _ hS => (hpost.2 x rfl).elim)
                        rcases hpost.1 _ rfl with ⟨t_tr151, t_dp152, t_zi153, t_sh154, f_mf155, hv, c156, c156_0, c156_1, c156_2, hI1⟩ | ⟨hv, c157, c157_0, hI1⟩ | ⟨t_dp158, t_zi159, t_sh160, f_mf161, hv, c162, c162_0, c162_1, c162_2, hI1⟩
                        · cases hv
                          have hI : sI (dC, dI) vcl cI cJ (gsM a th t_tr151 t_dp152 t_zi153 t78z_co t_sh154 lt ts f_mf155) A s.heap H1 locs1 := ⟨by rw [← ht]; exact hI1, hS⟩
                          obtain ⟨-, ⟨o163, o164⟩, ⟨o165, o166⟩, ⟨o167, o168⟩, -, ⟨o169, o170⟩, -, -, -⟩ := id c156
                          clear hpost hI1 hS ht hWt
                          revert hI; generalize H1 = H; generalize locs1 = locs; intro hI
                          refine lv_goto (tgt := 240) hx hb d_Mo_step_210 (by decide) ?_
                          exact j240p _ _ _ v78z_1 v78z_2 z74 z111 z115 t_tr151 t_dp152 t_zi153 t78z_co t_sh154 lt f_mf155 hI c156 (by omega) (by omega) (by omega) (by omega) (by omega) (by omega) (by omega) (by omega) (by omega) (by omega) (by omega) (by omega) (by omega) (lv_sub hl [3, 4, 5, 2, 1, 0] rfl)
                        · cases hv
                          have hI : sI (dC, dI) vcl cI cJ (gsM a th t78z_tr dp t78z_zi t78z_co sh lt ts mf) A s.heap H1 locs1 := ⟨by rw [← ht]; exact hI1, hS⟩
                          clear hpost hI1 hS ht hWt
                          revert hI; generalize H1 = H; generalize locs1 = locs; intro hI
                          refine lv_goto (tgt := 240) hx hb d_Mo_step_210 (by decide) ?_
                          exact j240z _ _ _ v78z_1 v78z_2 z74 z111 z115 t78z_tr dp t78z_zi t78z_co sh lt mf hI c157 (by omega) (by omega) (by omega) (by omega) (by omega) (by omega) (by omega) (by omega) (by omega) (by omega) (by omega) (by omega) (by omega) (lv_sub hl [3, 4, 5, 2, 1, 0] rfl)
                        · cases hv
                          have hI : sI (dC, dI) vcl cI cJ (gsM a th t78z_tr t_dp158 t_zi159 t78z_co t_sh160 lt ts f_mf161) A s.heap H1 locs1 := ⟨by rw [← ht]; exact hI1, hS⟩
                          obtain ⟨-, -, ⟨o171, o172⟩, ⟨o173, o174⟩, -, ⟨o175, o176⟩, -, -, -⟩ := id c162
                          clear hpost hI1 hS ht hWt
                          revert hI; generalize H1 = H; generalize locs1 = locs; intro hI
                          refine lv_goto (tgt := 240) hx hb d_Mo_step_210 (by decide) ?_
                          exact j240z _ _ _ v78z_1 v78z_2 z74 z111 z115 t78z_tr t_dp158 t_zi159 t78z_co t_sh160 lt f_mf161 hI c162 (by omega) (by omega) (by omega) (by omega) (by omega) (by omega) (by omega) (by omega) (by omega) (by omega) (by omega) (by omega) (by omega) (lv_sub hl [3, 4, 5, 2, 1, 0] rfl)
                    · refine lv_aload_n hx hb d_Mo_step_190 rfl (lv_at hl 3 rfl) ?_
                      refine lv_iload_n hx hb d_Mo_step_191 rfl (lv_at hl 2 rfl) ?_
                      refine lv_iload hx hb d_Mo_step_192 (lv_at hl 1 rfl) ?_
                      refine tz_call (A1 := ga (adM a) H.size) (tz_runV (C := "StoryMachineModel") (As := [.int z74, .int z111]) (rest := []) ⟨hx, hb, hml, hown, hts⟩ (c_Mo_first l hfl dC dI cI cJ a H.size th t78z_tr dp t78z_zi t78z_co sh lt ts mf z74 z111 c102 (by omega) (by omega) (by omega) (by omega) (by omega)) (tx_cb (n := 2) hts rfl rfl ⟨Nat.le_of_ble_eq_true rfl, Nat.le_of_ble_eq_true rfl⟩ (tx_code.of (hts _ mw_1389)) (hts _ mw_12) (by decide +kernel) (hts _ mw_1386)) (hts _ mw_1388) (hts _ ms_Mo_first) ⟨tz_blind, sv_recv (q0 := 0) hts in_Mo hK hI kM_0 rfl, fun U hU hW => ⟨rfl, by rw [hU], by rw [hU]; exact hI.1, va_K.moved hW.alike hK, hst _ _ hI.2 U hU hW⟩⟩ rfl rfl hl.1 rfl (lv_room (Nat.le_of_ble_eq_true rfl)) d_Mo_step_194 ⟨Nat.le_of_ble_eq_true rfl, Nat.le_of_ble_eq_true rfl⟩) hI.2 (fun q _ h => ga_sub hAC hA0 hI.2 q h) (ga_sub hAC hA0 hI.2) (fun v t H1 locs1 ht hWt hpost _ _ hS => ?_) (fun x t H1 locs1 ht hWt hpost _ _ hS => (hpost.2 x rfl).elim)
                      rcases hpost.1 _ rfl with ⟨t_tr177, t_dp178, t_zi179, t_sh180, f_mf181, hv, c182, c182_0, c182_1, hI1⟩ | ⟨hv, c183, c183_0, c183_1, hI1⟩ | ⟨t_dp184, t_zi185, t_sh186, f_mf187, hv, c188, c188_0, c188_1, hI1⟩
                      · cases hv
                        have hI : sI (dC, dI) vcl cI cJ (gsM a th t_tr177 t_dp178 t_zi179 t78z_co t_sh180 lt ts f_mf181) A s.heap H1 locs1 := ⟨by rw [← ht]; exact hI1, hS⟩
                        obtain ⟨-, ⟨o189, o190⟩, ⟨o191, o192⟩, ⟨o193, o194⟩, -, ⟨o195, o196⟩, -, -, -⟩ := id c182
                        clear hpost hI1 hS ht hWt
                        revert hI; generalize H1 = H; generalize locs1 = locs; intro hI
                        refine lv_goto (tgt := 240) hx hb d_Mo_step_197 (by decide) ?_
                        exact j240p _ _ _ v78z_1 v78z_2 z74 z111 z115 t_tr177 t_dp178 t_zi179 t78z_co t_sh180 lt f_mf181 hI c182 (by omega) (by omega) (by omega) (by omega) (by omega) (by omega) (by omega) (by omega) (by omega) (by omega) (by omega) (by omega) (by omega) (lv_sub hl [3, 4, 5, 2, 1, 0] rfl)
                      · cases hv
                        have hI : sI (dC, dI) vcl cI cJ (gsM a th t78z_tr dp t78z_zi t78z_co sh lt ts mf) A s.heap H1 locs1 := ⟨by rw [← ht]; exact hI1, hS⟩
                        clear hpost hI1 hS ht hWt
                        revert hI; generalize H1 = H; generalize locs1 = locs; intro hI
                        refine lv_goto (tgt := 240) hx hb d_Mo_step_197 (by decide) ?_
                        exact j240z _ _ _ v78z_1 v78z_2 z74 z111 z115 t78z_tr dp t78z_zi t78z_co sh lt mf hI c183 (by omega) (by omega) (by omega) (by omega) (by omega) (by omega) (by omega) (by omega) (by omega) (by omega) (by omega) (by omega) (by omega) (lv_sub hl [3, 4, 5, 2, 1, 0] rfl)
                      · cases hv
                        have hI : sI (dC, dI) vcl cI cJ (gsM a th t78z_tr t_dp184 t_zi185 t78z_co t_sh186 lt ts f_mf187) A s.heap H1 locs1 := ⟨by rw [← ht]; exact hI1, hS⟩
                        obtain ⟨-, -, ⟨o197, o198⟩, ⟨o199, o200⟩, -, ⟨o201, o202⟩, -, -, -⟩ := id c188
                        clear hpost hI1 hS ht hWt
                        revert hI; generalize H1 = H; generalize locs1 = locs; intro hI
                        refine lv_goto (tgt := 240) hx hb d_Mo_step_197 (by decide) ?_
                        exact j240z _ _ _ v78z_1 v78z_2 z74 z111 z115 t78z_tr t_dp184 t_zi185 t78z_co t_sh186 lt f_mf187 hI c188 (by omega) (by omega) (by omega) (by omega) (by omega) (by omega) (by omega) (by omega) (by omega) (by omega) (by omega) (by omega) (by omega) (lv_sub hl [3, 4, 5, 2, 1, 0] rfl)
                  · refine lv_aload_n hx hb d_Mo_step_173 rfl (lv_at hl 3 rfl) ?_
                    refine lv_iload_n hx hb d_Mo_step_174 rfl (lv_at hl 2 rfl) ?_
                    refine lv_iload hx hb d_Mo_step_175 (lv_at hl 1 rfl) ?_
                    refine lv_iload hx hb d_Mo_step_177 (lv_at hl 0 rfl) ?_
                    refine tz_call (A1 := ga (adM a) H.size) (tz_runV (C := "StoryMachineModel") (As := [.int z74, .int z111, .int z115]) (rest := []) ⟨hx, hb, hml, hown, hts⟩ (c_Mo_second l hfl dC dI cI cJ a H.size th t78z_tr dp t78z_zi t78z_co sh lt ts mf z74 z111 z115 c102 (by omega) (by omega) (by omega) (by omega) (by omega) (by omega)) (tx_cb (n := 3) hts rfl rfl ⟨Nat.le_of_ble_eq_true rfl, Nat.le_of_ble_eq_true rfl⟩ (tx_code.of (hts _ mw_1284)) (hts _ mw_12) (by decide +kernel) (hts _ mw_1281)) (hts _ mw_1283) (hts _ ms_Mo_second) ⟨tz_blind, sv_recv (q0 := 0) hts in_Mo hK hI kM_0 rfl, fun U hU hW => ⟨rfl, by rw [hU], by rw [hU]; exact hI.1, va_K.moved hW.alike hK, hst _ _ hI.2 U hU hW⟩⟩ rfl rfl hl.1 rfl (lv_room (Nat.le_of_ble_eq_true rfl)) d_Mo_step_179 ⟨Nat.le_of_ble_eq_true rfl, Nat.le_of_ble_eq_true rfl⟩) hI.2 (fun q _ h => ga_sub hAC hA0 hI.2 q h) (ga_sub hAC hA0 hI.2) (fun v t H1 locs1 ht hWt hpost _ _ hS => ?_) (fun x t H1 locs1 ht hWt hpost _ _ hS => (hpost.2 x rfl).elim)
                    rcases hpost.1 _ rfl with ⟨t_tr203, t_dp204, t_zi205, f_mf206, hv, c207, c207_0, hI1⟩ | ⟨t_dp208, t_zi209, f_mf210, hv, c211, c211_0, hI1⟩
                    · cases hv
                      have hI : sI (dC, dI) vcl cI cJ (gsM a th t_tr203 t_dp204 t_zi205 t78z_co sh lt ts f_mf206) A s.heap H1 locs1 := ⟨by rw [← ht]; exact hI1, hS⟩
                      obtain ⟨-, ⟨o212, o213⟩, ⟨o214, o215⟩, ⟨o216, o217⟩, -, -, -, -, -⟩ := id c207
                      clear hpost hI1 hS ht hWt
                      revert hI; generalize H1 = H; generalize locs1 = locs; intro hI
                      refine lv_goto (tgt := 240) hx hb d_Mo_step_182 (by decide) ?_
                      exact j240p _ _ _ v78z_1 v78z_2 z74 z111 z115 t_tr203 t_dp204 t_zi205 t78z_co sh lt f_mf206 hI c207 (by omega) (by omega) (by omega) (by omega) (by omega) (by omega) (by omega) (by omega) (by omega) (by omega) (by omega) (by omega) (by omega) (lv_sub hl [3, 4, 5, 2, 1, 0] rfl)
                    · cases hv
                      have hI : sI (dC, dI) vcl cI cJ (gsM a th t78z_tr t_dp208 t_zi209 t78z_co sh lt ts f_mf210) A s.heap H1 locs1 := ⟨by rw [← ht]; exact hI1, hS⟩
                      obtain ⟨-, -, ⟨o218, o219⟩, ⟨o220, o221⟩, -, -, -, -, -⟩ := id c211
                      clear hpost hI1 hS ht hWt
                      revert hI; generalize H1 = H; generalize locs1 = locs; intro hI
                      refine lv_goto (tgt := 240) hx hb d_Mo_step_182 (by decide) ?_
                      exact j240z _ _ _ v78z_1 v78z_2 z74 z111 z115 t78z_tr t_dp208 t_zi209 t78z_co sh lt f_mf210 hI c211 (by omega) (by omega) (by omega) (by omega) (by omega) (by omega) (by omega) (by omega) (by omega) (by omega) (by omega) (by omega) (by omega) (lv_sub hl [3, 4, 5, 2, 1, 0] rfl)
                · omega
              · refine lv_aload_n hx hb d_Mo_step_137 rfl (lv_at hl 1 rfl) ?_
                refine sv_getr (C := "StoryMachineModel") (T := T_Mo) (N := 51) hx hb hts in_Mo hown hK hI 0 kM_0 rfl 39 (by decide) (hts _ mw_1102) rfl d_Mo_step_138 ?_
                refine sn_iconst hx hb d_Mo_step_141 (by decide) (fun z222 hz222 => ?_)
                refine sv_ialdr hx hb hK hI 18 kM_18 (by omega) (by omega) d_Mo_step_142 (fun z223 hz223a hz223b => ?_)
                refine lv_goto (tgt := 147) hx hb d_Mo_step_143 (by decide) ?_
                refine lv_istore (lv' := [(4, .int z223), (3, .int z74), (0, .ref (a 0)), (1, .int v78z_1), (2, .int v78z_2)]) hx hb d_Mo_step_147 hl (by decide) rfl (fun ls hl => ?_)
                refine lv_aload_n hx hb d_Mo_step_149 rfl (lv_at hl 2 rfl) ?_
                refine sv_gete (C := "StoryMachineModel") (T := T_Mo) (N := 51) hx hb hts in_Mo hown hK hI 0 kM_0 rfl 38 (by decide) (hts _ mw_1101) rfl d_Mo_step_150 (fun z224 hz224 => ?_)
                refine sn_iconst hx hb d_Mo_step_153 (by decide) (fun z225 hz225 => ?_)
                refine sn_icmp_le (tgt := 166) hx hb d_Mo_step_154 (by decide) (fun b226 => ?_) (fun b226 => ?_)
                · refine sn_iconst hx hb d_Mo_step_166 (by decide) (fun z227 hz227 => ?_)
                  refine lv_istore (lv' := [(5, .int z227), (4, .int z223), (3, .int z74), (0, .ref (a 0)), (1, .int v78z_1), (2, .int v78z_2)]) hx hb d_Mo_step_167 hl (by decide) rfl (fun ls hl => ?_)
                  refine lv_iload_n hx hb d_Mo_step_169 rfl (lv_at hl 5 rfl) ?_
                  refine sn_if_ne (tgt := 185) hx hb d_Mo_step_170 (by decide) (fun b228 => ?_) (fun b228 => ?_)
                  · refine lv_iload_n hx hb d_Mo_step_185 rfl (lv_at hl 5 rfl) ?_
                    refine sn_iconst hx hb d_Mo_step_186 (by decide) (fun z229 hz229 => ?_)
                    refine sn_icmp_ne (tgt := 200) hx hb d_Mo_step_187 (by decide) (fun b230 => ?_) (fun b230 => ?_)
                    · refine lv_iload_n hx hb d_Mo_step_200 rfl (lv_at hl 5 rfl) ?_
                      refine sn_iconst hx hb d_Mo_step_201 (by decide) (fun z231 hz231 => ?_)
                      refine sn_icmp_ne (tgt := 213) hx hb d_Mo_step_202 (by decide) (fun b232 => ?_) (fun b232 => ?_)
                      · refine lv_aload_n hx hb d_Mo_step_213 rfl (lv_at hl 3 rfl) ?_
                        refine lv_iload_n hx hb d_Mo_step_214 rfl (lv_at hl 2 rfl) ?_
                        refine lv_iload hx hb d_Mo_step_215 (lv_at hl 1 rfl) ?_
                        refine lv_iload hx hb d_Mo_step_217 (lv_at hl 0 rfl) ?_
                        refine lv_aload_n hx hb d_Mo_step_219 rfl (lv_at hl 3 rfl) ?_
                        refine sv_gete (C := "StoryMachineModel") (T := T_Mo) (N := 51) hx hb hts in_Mo hown hK hI 0 kM_0 rfl 38 (by decide) (hts _ mw_1101) rfl d_Mo_step_220 (fun z233 hz233 => ?_)
                        refine sn_iconst hx hb d_Mo_step_223 (by decide) (fun z234 hz234 => ?_)
                        refine sn_icmp_le (tgt := 236) hx hb d_Mo_step_224 (by decide) (fun b235 => ?_) (fun b235 => ?_)
                        · refine sn_iconst hx hb d_Mo_step_236 (by decide) (fun z236 hz236 => ?_)
                          refine tz_call (A1 := ga (adM a) H.size) (tz_runV (C := "StoryMachineModel") (As := [.int z74, .int z223, .int z227, .int z236]) (rest := []) ⟨hx, hb, hml, hown, hts⟩ (c_Mo_manyList l hfl dC dI cI cJ a H.size th t78z_tr dp t78z_zi t78z_co sh lt ts mf z74 z223 z227 z236 c102 (by omega) (by omega) (by omega) (by omega) (by omega) (by omega) (by omega) (by omega) (by omega)) (tx_cb (n := 4) hts rfl rfl ⟨Nat.le_of_ble_eq_true rfl, Nat.le_of_ble_eq_true rfl⟩ (tx_code.of (hts _ mw_1440)) (hts _ mw_12) (by decide +kernel) (hts _ mw_1437)) (hts _ mw_1439) (hts _ ms_Mo_manyList) ⟨tz_blind, sv_recv (q0 := 0) hts in_Mo hK hI kM_0 rfl, fun U hU hW => ⟨rfl, by rw [hU], by rw [hU]; exact hI.1, va_K.moved hW.alike hK, hst _ _ hI.2 U hU hW⟩⟩ rfl rfl hl.1 rfl (lv_room (Nat.le_of_ble_eq_true rfl)) d_Mo_step_237 ⟨Nat.le_of_ble_eq_true rfl, Nat.le_of_ble_eq_true rfl⟩) hI.2 (fun q _ h => ga_sub hAC hA0 hI.2 q h) (ga_sub hAC hA0 hI.2) (fun v t H1 locs1 ht hWt hpost _ _ hS => ?_) (fun x t H1 locs1 ht hWt hpost _ _ hS => (hpost.2 x rfl).elim)
                          rcases hpost.1 _ rfl with ⟨t_tr237, t_zi238, t_lt239, f_mf240, hv, c241, c241_0, hI1⟩ | ⟨hv, c242, c242_0, c242_1, hI1⟩ | ⟨t_dp243, t_zi244, t_sh245, t_lt246, f_mf247, hv, c248, c248_0, c248_1, hI1⟩
                          · cases hv
                            have hI : sI (dC, dI) vcl cI cJ (gsM a th t_tr237 dp t_zi238 t78z_co sh t_lt239 ts f_mf240) A s.heap H1 locs1 := ⟨by rw [← ht]; exact hI1, hS⟩
                            obtain ⟨-, ⟨o249, o250⟩, -, ⟨o251, o252⟩, -, -, ⟨o253, o254⟩, -, -⟩ := id c241
                            clear hpost hI1 hS ht hWt
                            revert hI; generalize H1 = H; generalize locs1 = locs; intro hI
                            exact j240p _ _ _ v78z_1 v78z_2 z74 z223 z227 t_tr237 dp t_zi238 t78z_co sh t_lt239 f_mf240 hI c241 (by omega) (by omega) (by omega) (by omega) (by omega) (by omega) (by omega) (by omega) (by omega) (by omega) (by omega) (by omega) (by omega) (lv_sub hl [3, 4, 5, 2, 1, 0] rfl)
                          · cases hv
                            have hI : sI (dC, dI) vcl cI cJ (gsM a th t78z_tr dp t78z_zi t78z_co sh lt ts mf) A s.heap H1 locs1 := ⟨by rw [← ht]; exact hI1, hS⟩
                            clear hpost hI1 hS ht hWt
                            revert hI; generalize H1 = H; generalize locs1 = locs; intro hI
                            exact j240z _ _ _ v78z_1 v78z_2 z74 z223 z227 t78z_tr dp t78z_zi t78z_co sh lt mf hI c242 (by omega) (by omega) (by omega) (by omega) (by omega) (by omega) (by omega) (by omega) (by omega) (by omega) (by omega) (by omega) (by omega) (lv_sub hl [3, 4, 5, 2, 1, 0] rfl)
                          · cases hv
                            have hI : sI (dC, dI) vcl cI cJ (gsM a th t78z_tr t_dp243 t_zi244 t78z_co t_sh245 t_lt246 ts f_mf247) A s.heap H1 locs1 := ⟨by rw [← ht]; exact hI1, hS⟩
                            obtain ⟨-, -, ⟨o255, o256⟩, ⟨o257, o258⟩, -, ⟨o259, o260⟩, ⟨o261, o262⟩, -, -⟩ := id c248
                            clear hpost hI1 hS ht hWt
                            revert hI; generalize H1 = H; generalize locs1 = locs; intro hI
                            exact j240z _ _ _ v78z_1 v78z_2 z74 z223 z227 t78z_tr t_dp243 t_zi244 t78z_co t_sh245 t_lt246 f_mf247 hI c248 (by omega) (by omega) (by omega) (by omega) (by omega) (by omega) (by omega) (by omega) (by omega) (by omega) (by omega) (by omega) (by omega) (lv_sub hl [3, 4, 5, 2, 1, 0] rfl)
                        · omega
                      · refine lv_aload_n hx hb d_Mo_step_205 rfl (lv_at hl 3 rfl) ?_
                        refine lv_iload_n hx hb d_Mo_step_206 rfl (lv_at hl 2 rfl) ?_
                        refine tz_call (A1 := ga (adM a) H.size) (tz_runV (C := "StoryMachineModel") (As := [.int z74]) (rest := []) ⟨hx, hb, hml, hown, hts⟩ (c_Mo_none l hfl dC dI cI cJ a H.size th t78z_tr dp t78z_zi t78z_co sh lt ts mf z74 c102 (by omega) (by omega) (by omega)) (tx_cb (n := 1) hts rfl rfl ⟨Nat.le_of_ble_eq_true rfl, Nat.le_of_ble_eq_true rfl⟩ (tx_code.of (hts _ mw_1421)) (hts _ mw_12) (by decide +kernel) (hts _ mw_1418)) (hts _ mw_1420) (hts _ ms_Mo_none) ⟨tz_blind, sv_recv (q0 := 0) hts in_Mo hK hI kM_0 rfl, fun U hU hW => ⟨rfl, by rw [hU], by rw [hU]; exact hI.1, va_K.moved hW.alike hK, hst _ _ hI.2 U hU hW⟩⟩ rfl rfl hl.1 rfl (lv_room (Nat.le_of_ble_eq_true rfl)) d_Mo_step_207 ⟨Nat.le_of_ble_eq_true rfl, Nat.le_of_ble_eq_true rfl⟩) hI.2 (fun q _ h => ga_sub hAC hA0 hI.2 q h) (ga_sub hAC hA0 hI.2) (fun v t H1 locs1 ht hWt hpost _ _ hS => ?_) (fun x t H1 locs1 ht hWt hpost _ _ hS => (hpost.2 x rfl).elim)
                        rcases hpost.1 _ rfl with ⟨t_tr263, t_dp264, t_zi265, t_sh266, f_mf267, hv, c268, c268_0, c268_1, c268_2, hI1⟩ | ⟨hv, c269, c269_0, hI1⟩ | ⟨t_dp270, t_zi271, t_sh272, f_mf273, hv, c274, c274_0, c274_1, c274_2, hI1⟩
                        · cases hv
                          have hI : sI (dC, dI) vcl cI cJ (gsM a th t_tr263 t_dp264 t_zi265 t78z_co t_sh266 lt ts f_mf267) A s.heap H1 locs1 := ⟨by rw [← ht]; exact hI1, hS⟩
                          obtain ⟨-, ⟨o275, o276⟩, ⟨o277, o278⟩, ⟨o279, o280⟩, -, ⟨o281, o282⟩, -, -, -⟩ := id c268
                          clear hpost hI1 hS ht hWt
                          revert hI; generalize H1 = H; generalize locs1 = locs; intro hI
                          refine lv_goto (tgt := 240) hx hb d_Mo_step_210 (by decide) ?_
                          exact j240p _ _ _ v78z_1 v78z_2 z74 z223 z227 t_tr263 t_dp264 t_zi265 t78z_co t_sh266 lt f_mf267 hI c268 (by omega) (by omega) (by omega) (by omega) (by omega) (by omega) (by omega) (by omega) (by omega) (by omega) (by omega) (by omega) (by omega) (lv_sub hl [3, 4, 5, 2, 1, 0] rfl)
                        · cases hv
                          have hI : sI (dC, dI) vcl cI cJ (gsM a th t78z_tr dp t78z_zi t78z_co sh lt ts mf) A s.heap H1 locs1 := ⟨by rw [← ht]; exact hI1, hS⟩
                          clear hpost hI1 hS ht hWt
                          revert hI; generalize H1 = H; generalize locs1 = locs; intro hI
                          refine lv_goto (tgt := 240) hx hb d_Mo_step_210 (by decide) ?_
                          exact j240z _ _ _ v78z_1 v78z_2 z74 z223 z227 t78z_tr dp t78z_zi t78z_co sh lt mf hI c269 (by omega) (by omega) (by omega) (by omega) (by omega) (by omega) (by omega) (by omega) (by omega) (by omega) (by omega) (by omega) (by omega) (lv_sub hl [3, 4, 5, 2, 1, 0] rfl)
                        · cases hv
                          have hI : sI (dC, dI) vcl cI cJ (gsM a th t78z_tr t_dp270 t_zi271 t78z_co t_sh272 lt ts f_mf273) A s.heap H1 locs1 := ⟨by rw [← ht]; exact hI1, hS⟩
                          obtain ⟨-, -, ⟨o283, o284⟩, ⟨o285, o286⟩, -, ⟨o287, o288⟩, -, -, -⟩ := id c274
                          clear hpost hI1 hS ht hWt
                          revert hI; generalize H1 = H; generalize locs1 = locs; intro hI
                          refine lv_goto (tgt := 240) hx hb d_Mo_step_210 (by decide) ?_
                          exact j240z _ _ _ v78z_1 v78z_2 z74 z223 z227 t78z_tr t_dp270 t_zi271 t78z_co t_sh272 lt f_mf273 hI c274 (by omega) (by omega) (by omega) (by omega) (by omega) (by omega) (by omega) (by omega) (by omega) (by omega) (by omega) (by omega) (by omega) (lv_sub hl [3, 4, 5, 2, 1, 0] rfl)
                    · refine lv_aload_n hx hb d_Mo_step_190 rfl (lv_at hl 3 rfl) ?_
                      refine lv_iload_n hx hb d_Mo_step_191 rfl (lv_at hl 2 rfl) ?_
                      refine lv_iload hx hb d_Mo_step_192 (lv_at hl 1 rfl) ?_
                      refine tz_call (A1 := ga (adM a) H.size) (tz_runV (C := "StoryMachineModel") (As := [.int z74, .int z223]) (rest := []) ⟨hx, hb, hml, hown, hts⟩ (c_Mo_first l hfl dC dI cI cJ a H.size th t78z_tr dp t78z_zi t78z_co sh lt ts mf z74 z223 c102 (by omega) (by omega) (by omega) (by omega) (by omega)) (tx_cb (n := 2) hts rfl rfl ⟨Nat.le_of_ble_eq_true rfl, Nat.le_of_ble_eq_true rfl⟩ (tx_code.of (hts _ mw_1389)) (hts _ mw_12) (by decide +kernel) (hts _ mw_1386)) (hts _ mw_1388) (hts _ ms_Mo_first) ⟨tz_blind, sv_recv (q0 := 0) hts in_Mo hK hI kM_0 rfl, fun U hU hW => ⟨rfl, by rw [hU], by rw [hU]; exact hI.1, va_K.moved hW.alike hK, hst _ _ hI.2 U hU hW⟩⟩ rfl rfl hl.1 rfl (lv_room (Nat.le_of_ble_eq_true rfl)) d_Mo_step_194 ⟨Nat.le_of_ble_eq_true rfl, Nat.le_of_ble_eq_true rfl⟩) hI.2 (fun q _ h => ga_sub hAC hA0 hI.2 q h) (ga_sub hAC hA0 hI.2) (fun v t H1 locs1 ht hWt hpost _ _ hS => ?_) (fun x t H1 locs1 ht hWt hpost _ _ hS => (hpost.2 x rfl).elim)
                      rcases hpost.1 _ rfl with ⟨t_tr289, t_dp290, t_zi291, t_sh292, f_mf293, hv, c294, c294_0, c294_1, hI1⟩ | ⟨hv, c295, c295_0, c295_1, hI1⟩ | ⟨t_dp296, t_zi297, t_sh298, f_mf299, hv, c300, c300_0, c300_1, hI1⟩
                      · cases hv
                        have hI : sI (dC, dI) vcl cI cJ (gsM a th t_tr289 t_dp290 t_zi291 t78z_co t_sh292 lt ts f_mf293) A s.heap H1 locs1 := ⟨by rw [← ht]; exact hI1, hS⟩
                        obtain ⟨-, ⟨o301, o302⟩, ⟨o303, o304⟩, ⟨o305, o306⟩, -, ⟨o307, o308⟩, -, -, -⟩ := id c294
                        clear hpost hI1 hS ht hWt
                        revert hI; generalize H1 = H; generalize locs1 = locs; intro hI
                        refine lv_goto (tgt := 240) hx hb d_Mo_step_197 (by decide) ?_
                        exact j240p _ _ _ v78z_1 v78z_2 z74 z223 z227 t_tr289 t_dp290 t_zi291 t78z_co t_sh292 lt f_mf293 hI c294 (by omega) (by omega) (by omega) (by omega) (by omega) (by omega) (by omega) (by omega) (by omega) (by omega) (by omega) (by omega) (by omega) (lv_sub hl [3, 4, 5, 2, 1, 0] rfl)
                      · cases hv
                        have hI : sI (dC, dI) vcl cI cJ (gsM a th t78z_tr dp t78z_zi t78z_co sh lt ts mf) A s.heap H1 locs1 := ⟨by rw [← ht]; exact hI1, hS⟩
                        clear hpost hI1 hS ht hWt
                        revert hI; generalize H1 = H; generalize locs1 = locs; intro hI
                        refine lv_goto (tgt := 240) hx hb d_Mo_step_197 (by decide) ?_
                        exact j240z _ _ _ v78z_1 v78z_2 z74 z223 z227 t78z_tr dp t78z_zi t78z_co sh lt mf hI c295 (by omega) (by omega) (by omega) (by omega) (by omega) (by omega) (by omega) (by omega) (by omega) (by omega) (by omega) (by omega) (by omega) (lv_sub hl [3, 4, 5, 2, 1, 0] rfl)
                      · cases hv
                        have hI : sI (dC, dI) vcl cI cJ (gsM a th t78z_tr t_dp296 t_zi297 t78z_co t_sh298 lt ts f_mf299) A s.heap H1 locs1 := ⟨by rw [← ht]; exact hI1, hS⟩
                        obtain ⟨-, -, ⟨o309, o310⟩, ⟨o311, o312⟩, -, ⟨o313, o314⟩, -, -, -⟩ := id c300
                        clear hpost hI1 hS ht hWt
                        revert hI; generalize H1 = H; generalize locs1 = locs; intro hI
                        refine lv_goto (tgt := 240) hx hb d_Mo_step_197 (by decide) ?_
                        exact j240z _ _ _ v78z_1 v78z_2 z74 z223 z227 t78z_tr t_dp296 t_zi297 t78z_co t_sh298 lt f_mf299 hI c300 (by omega) (by omega) (by omega) (by omega) (by omega) (by omega) (by omega) (by omega) (by omega) (by omega) (by omega) (by omega) (by omega) (lv_sub hl [3, 4, 5, 2, 1, 0] rfl)
                  · refine lv_aload_n hx hb d_Mo_step_173 rfl (lv_at hl 3 rfl) ?_
                    refine lv_iload_n hx hb d_Mo_step_174 rfl (lv_at hl 2 rfl) ?_
                    refine lv_iload hx hb d_Mo_step_175 (lv_at hl 1 rfl) ?_
                    refine lv_iload hx hb d_Mo_step_177 (lv_at hl 0 rfl) ?_
                    refine tz_call (A1 := ga (adM a) H.size) (tz_runV (C := "StoryMachineModel") (As := [.int z74, .int z223, .int z227]) (rest := []) ⟨hx, hb, hml, hown, hts⟩ (c_Mo_second l hfl dC dI cI cJ a H.size th t78z_tr dp t78z_zi t78z_co sh lt ts mf z74 z223 z227 c102 (by omega) (by omega) (by omega) (by omega) (by omega) (by omega)) (tx_cb (n := 3) hts rfl rfl ⟨Nat.le_of_ble_eq_true rfl, Nat.le_of_ble_eq_true rfl⟩ (tx_code.of (hts _ mw_1284)) (hts _ mw_12) (by decide +kernel) (hts _ mw_1281)) (hts _ mw_1283) (hts _ ms_Mo_second) ⟨tz_blind, sv_recv (q0 := 0) hts in_Mo hK hI kM_0 rfl, fun U hU hW => ⟨rfl, by rw [hU], by rw [hU]; exact hI.1, va_K.moved hW.alike hK, hst _ _ hI.2 U hU hW⟩⟩ rfl rfl hl.1 rfl (lv_room (Nat.le_of_ble_eq_true rfl)) d_Mo_step_179 ⟨Nat.le_of_ble_eq_true rfl, Nat.le_of_ble_eq_true rfl⟩) hI.2 (fun q _ h => ga_sub hAC hA0 hI.2 q h) (ga_sub hAC hA0 hI.2) (fun v t H1 locs1 ht hWt hpost _ _ hS => ?_) (fun x t H1 locs1 ht hWt hpost _ _ hS => (hpost.2 x rfl).elim)
                    rcases hpost.1 _ rfl with ⟨t_tr315, t_dp316, t_zi317, f_mf318, hv, c319, c319_0, hI1⟩ | ⟨t_dp320, t_zi321, f_mf322, hv, c323, c323_0, hI1⟩
                    · cases hv
                      have hI : sI (dC, dI) vcl cI cJ (gsM a th t_tr315 t_dp316 t_zi317 t78z_co sh lt ts f_mf318) A s.heap H1 locs1 := ⟨by rw [← ht]; exact hI1, hS⟩
                      obtain ⟨-, ⟨o324, o325⟩, ⟨o326, o327⟩, ⟨o328, o329⟩, -, -, -, -, -⟩ := id c319
                      clear hpost hI1 hS ht hWt
                      revert hI; generalize H1 = H; generalize locs1 = locs; intro hI
                      refine lv_goto (tgt := 240) hx hb d_Mo_step_182 (by decide) ?_
                      exact j240p _ _ _ v78z_1 v78z_2 z74 z223 z227 t_tr315 t_dp316 t_zi317 t78z_co sh lt f_mf318 hI c319 (by omega) (by omega) (by omega) (by omega) (by omega) (by omega) (by omega) (by omega) (by omega) (by omega) (by omega) (by omega) (by omega) (lv_sub hl [3, 4, 5, 2, 1, 0] rfl)
                    · cases hv
                      have hI : sI (dC, dI) vcl cI cJ (gsM a th t78z_tr t_dp320 t_zi321 t78z_co sh lt ts f_mf322) A s.heap H1 locs1 := ⟨by rw [← ht]; exact hI1, hS⟩
                      obtain ⟨-, -, ⟨o330, o331⟩, ⟨o332, o333⟩, -, -, -, -, -⟩ := id c323
                      clear hpost hI1 hS ht hWt
                      revert hI; generalize H1 = H; generalize locs1 = locs; intro hI
                      refine lv_goto (tgt := 240) hx hb d_Mo_step_182 (by decide) ?_
                      exact j240z _ _ _ v78z_1 v78z_2 z74 z223 z227 t78z_tr t_dp320 t_zi321 t78z_co sh lt f_mf322 hI c323 (by omega) (by omega) (by omega) (by omega) (by omega) (by omega) (by omega) (by omega) (by omega) (by omega) (by omega) (by omega) (by omega) (lv_sub hl [3, 4, 5, 2, 1, 0] rfl)
                · refine lv_aload_n hx hb d_Mo_step_157 rfl (lv_at hl 2 rfl) ?_
                  refine sv_getr (C := "StoryMachineModel") (T := T_Mo) (N := 51) hx hb hts in_Mo hown hK hI 0 kM_0 rfl 39 (by decide) (hts _ mw_1102) rfl d_Mo_step_158 ?_
                  refine sn_iconst hx hb d_Mo_step_161 (by decide) (fun z334 hz334 => ?_)
                  refine sv_ialdr hx hb hK hI 18 kM_18 (by omega) (by omega) d_Mo_step_162 (fun z335 hz335a hz335b => ?_)
                  refine lv_goto (tgt := 167) hx hb d_Mo_step_163 (by decide) ?_
                  refine lv_istore (lv' := [(5, .int z335), (4, .int z223), (3, .int z74), (0, .ref (a 0)), (1, .int v78z_1), (2, .int v78z_2)]) hx hb d_Mo_step_167 hl (by decide) rfl (fun ls hl => ?_)
                  refine lv_iload_n hx hb d_Mo_step_169 rfl (lv_at hl 5 rfl) ?_
                  refine sn_if_ne (tgt := 185) hx hb d_Mo_step_170 (by decide) (fun b336 => ?_) (fun b336 => ?_)
                  · refine lv_iload_n hx hb d_Mo_step_185 rfl (lv_at hl 5 rfl) ?_
                    refine sn_iconst hx hb d_Mo_step_186 (by decide) (fun z337 hz337 => ?_)
                    refine sn_icmp_ne (tgt := 200) hx hb d_Mo_step_187 (by decide) (fun b338 => ?_) (fun b338 => ?_)
                    · refine lv_iload_n hx hb d_Mo_step_200 rfl (lv_at hl 5 rfl) ?_
                      refine sn_iconst hx hb d_Mo_step_201 (by decide) (fun z339 hz339 => ?_)
                      refine sn_icmp_ne (tgt := 213) hx hb d_Mo_step_202 (by decide) (fun b340 => ?_) (fun b340 => ?_)
                      · refine lv_aload_n hx hb d_Mo_step_213 rfl (lv_at hl 3 rfl) ?_
                        refine lv_iload_n hx hb d_Mo_step_214 rfl (lv_at hl 2 rfl) ?_
                        refine lv_iload hx hb d_Mo_step_215 (lv_at hl 1 rfl) ?_
                        refine lv_iload hx hb d_Mo_step_217 (lv_at hl 0 rfl) ?_
                        refine lv_aload_n hx hb d_Mo_step_219 rfl (lv_at hl 3 rfl) ?_
                        refine sv_gete (C := "StoryMachineModel") (T := T_Mo) (N := 51) hx hb hts in_Mo hown hK hI 0 kM_0 rfl 38 (by decide) (hts _ mw_1101) rfl d_Mo_step_220 (fun z341 hz341 => ?_)
                        refine sn_iconst hx hb d_Mo_step_223 (by decide) (fun z342 hz342 => ?_)
                        refine sn_icmp_le (tgt := 236) hx hb d_Mo_step_224 (by decide) (fun b343 => ?_) (fun b343 => ?_)
                        · refine sn_iconst hx hb d_Mo_step_236 (by decide) (fun z344 hz344 => ?_)
                          refine tz_call (A1 := ga (adM a) H.size) (tz_runV (C := "StoryMachineModel") (As := [.int z74, .int z223, .int z335, .int z344]) (rest := []) ⟨hx, hb, hml, hown, hts⟩ (c_Mo_manyList l hfl dC dI cI cJ a H.size th t78z_tr dp t78z_zi t78z_co sh lt ts mf z74 z223 z335 z344 c102 (by omega) (by omega) (by omega) (by omega) (by omega) (by omega) (by omega) (by omega) (by omega)) (tx_cb (n := 4) hts rfl rfl ⟨Nat.le_of_ble_eq_true rfl, Nat.le_of_ble_eq_true rfl⟩ (tx_code.of (hts _ mw_1440)) (hts _ mw_12) (by decide +kernel) (hts _ mw_1437)) (hts _ mw_1439) (hts _ ms_Mo_manyList) ⟨tz_blind, sv_recv (q0 := 0) hts in_Mo hK hI kM_0 rfl, fun U hU hW => ⟨rfl, by rw [hU], by rw [hU]; exact hI.1, va_K.moved hW.alike hK, hst _ _ hI.2 U hU hW⟩⟩ rfl rfl hl.1 rfl (lv_room (Nat.le_of_ble_eq_true rfl)) d_Mo_step_237 ⟨Nat.le_of_ble_eq_true rfl, Nat.le_of_ble_eq_true rfl⟩) hI.2 (fun q _ h => ga_sub hAC hA0 hI.2 q h) (ga_sub hAC hA0 hI.2) (fun v t H1 locs1 ht hWt hpost _ _ hS => ?_) (fun x t H1 locs1 ht hWt hpost _ _ hS => (hpost.2 x rfl).elim)
                          rcases hpost.1 _ rfl with ⟨t_tr345, t_zi346, t_lt347, f_mf348, hv, c349, c349_0, hI1⟩ | ⟨hv, c350, c350_0, c350_1, hI1⟩ | ⟨t_dp351, t_zi352, t_sh353, t_lt354, f_mf355, hv, c356, c356_0, c356_1, hI1⟩
                          · cases hv
                            have hI : sI (dC, dI) vcl cI cJ (gsM a th t_tr345 dp t_zi346 t78z_co sh t_lt347 ts f_mf348) A s.heap H1 locs1 := ⟨by rw [← ht]; exact hI1, hS⟩
                            obtain ⟨-, ⟨o357, o358⟩, -, ⟨o359, o360⟩, -, -, ⟨o361, o362⟩, -, -⟩ := id c349
                            clear hpost hI1 hS ht hWt
                            revert hI; generalize H1 = H; generalize locs1 = locs; intro hI
                            exact j240p _ _ _ v78z_1 v78z_2 z74 z223 z335 t_tr345 dp t_zi346 t78z_co sh t_lt347 f_mf348 hI c349 (by omega) (by omega) (by omega) (by omega) (by omega) (by omega) (by omega) (by omega) (by omega) (by omega) (by omega) (by omega) (by omega) (lv_sub hl [3, 4, 5, 2, 1, 0] rfl)
                          · cases hv
                            have hI : sI (dC, dI) vcl cI cJ (gsM a th t78z_tr dp t78z_zi t78z_co sh lt ts mf) A s.heap H1 locs1 := ⟨by rw [← ht]; exact hI1, hS⟩
                            clear hpost hI1 hS ht hWt
                            revert hI; generalize H1 = H; generalize locs1 = locs; intro hI
                            exact j240z _ _ _ v78z_1 v78z_2 z74 z223 z335 t78z_tr dp t78z_zi t78z_co sh lt mf hI c350 (by omega) (by omega) (by omega) (by omega) (by omega) (by omega) (by omega) (by omega) (by omega) (by omega) (by omega) (by omega) (by omega) (lv_sub hl [3, 4, 5, 2, 1, 0] rfl)
                          · cases hv
                            have hI : sI (dC, dI) vcl cI cJ (gsM a th t78z_tr t_dp351 t_zi352 t78z_co t_sh353 t_lt354 ts f_mf355) A s.heap H1 locs1 := ⟨by rw [← ht]; exact hI1, hS⟩
                            obtain ⟨-, -, ⟨o363, o364⟩, ⟨o365, o366⟩, -, ⟨o367, o368⟩, ⟨o369, o370⟩, -, -⟩ := id c356
                            clear hpost hI1 hS ht hWt
                            revert hI; generalize H1 = H; generalize locs1 = locs; intro hI
                            exact j240z _ _ _ v78z_1 v78z_2 z74 z223 z335 t78z_tr t_dp351 t_zi352 t78z_co t_sh353 t_lt354 f_mf355 hI c356 (by omega) (by omega) (by omega) (by omega) (by omega) (by omega) (by omega) (by omega) (by omega) (by omega) (by omega) (by omega) (by omega) (lv_sub hl [3, 4, 5, 2, 1, 0] rfl)
                        · refine lv_aload_n hx hb d_Mo_step_227 rfl (lv_at hl 3 rfl) ?_
                          refine sv_getr (C := "StoryMachineModel") (T := T_Mo) (N := 51) hx hb hts in_Mo hown hK hI 0 kM_0 rfl 39 (by decide) (hts _ mw_1102) rfl d_Mo_step_228 ?_
                          refine sn_iconst hx hb d_Mo_step_231 (by decide) (fun z371 hz371 => ?_)
                          refine sv_ialdr hx hb hK hI 18 kM_18 (by omega) (by omega) d_Mo_step_232 (fun z372 hz372a hz372b => ?_)
                          refine lv_goto (tgt := 237) hx hb d_Mo_step_233 (by decide) ?_
                          refine tz_call (A1 := ga (adM a) H.size) (tz_runV (C := "StoryMachineModel") (As := [.int z74, .int z223, .int z335, .int z372]) (rest := []) ⟨hx, hb, hml, hown, hts⟩ (c_Mo_manyList l hfl dC dI cI cJ a H.size th t78z_tr dp t78z_zi t78z_co sh lt ts mf z74 z223 z335 z372 c102 (by omega) (by omega) (by omega) (by omega) (by omega) (by omega) (by omega) (by omega) (by omega)) (tx_cb (n := 4) hts rfl rfl ⟨Nat.le_of_ble_eq_true rfl, Nat.le_of_ble_eq_true rfl⟩ (tx_code.of (hts _ mw_1440)) (hts _ mw_12) (by decide +kernel) (hts _ mw_1437)) (hts _ mw_1439) (hts _ ms_Mo_manyList) ⟨tz_blind, sv_recv (q0 := 0) hts in_Mo hK hI kM_0 rfl, fun U hU hW => ⟨rfl, by rw [hU], by rw [hU]; exact hI.1, va_K.moved hW.alike hK, hst _ _ hI.2 U hU hW⟩⟩ rfl rfl hl.1 rfl (lv_room (Nat.le_of_ble_eq_true rfl)) d_Mo_step_237 ⟨Nat.le_of_ble_eq_true rfl, Nat.le_of_ble_eq_true rfl⟩) hI.2 (fun q _ h => ga_sub hAC hA0 hI.2 q h) (ga_sub hAC hA0 hI.2) (fun v t H1 locs1 ht hWt hpost _ _ hS => ?_) (fun x t H1 locs1 ht hWt hpost _ _ hS => (hpost.2 x rfl).elim)
                          rcases hpost.1 _ rfl with ⟨t_tr373, t_zi374, t_lt375, f_mf376, hv, c377, c377_0, hI1⟩ | ⟨hv, c378, c378_0, c378_1, hI1⟩ | ⟨t_dp379, t_zi380, t_sh381, t_lt382, f_mf383, hv, c384, c384_0, c384_1, hI1⟩
                          · cases hv
                            have hI : sI (dC, dI) vcl cI cJ (gsM a th t_tr373 dp t_zi374 t78z_co sh t_lt375 ts f_mf376) A s.heap H1 locs1 := ⟨by rw [← ht]; exact hI1, hS⟩
                            obtain ⟨-, ⟨o385, o386⟩, -, ⟨o387, o388⟩, -, -, ⟨o389, o390⟩, -, -⟩ := id c377
                            clear hpost hI1 hS ht hWt
                            revert hI; generalize H1 = H; generalize locs1 = locs; intro hI
                            exact j240p _ _ _ v78z_1 v78z_2 z74 z223 z335 t_tr373 dp t_zi374 t78z_co sh t_lt375 f_mf376 hI c377 (by omega) (by omega) (by omega) (by omega) (by omega) (by omega) (by omega) (by omega) (by omega) (by omega) (by omega) (by omega) (by omega) (lv_sub hl [3, 4, 5, 2, 1, 0] rfl)
                          · cases hv
                            have hI : sI (dC, dI) vcl cI cJ (gsM a th t78z_tr dp t78z_zi t78z_co sh lt ts mf) A s.heap H1 locs1 := ⟨by rw [← ht]; exact hI1, hS⟩
                            clear hpost hI1 hS ht hWt
                            revert hI; generalize H1 = H; generalize locs1 = locs; intro hI
                            exact j240z _ _ _ v78z_1 v78z_2 z74 z223 z335 t78z_tr dp t78z_zi t78z_co sh lt mf hI c378 (by omega) (by omega) (by omega) (by omega) (by omega) (by omega) (by omega) (by omega) (by omega) (by omega) (by omega) (by omega) (by omega) (lv_sub hl [3, 4, 5, 2, 1, 0] rfl)
                          · cases hv
                            have hI : sI (dC, dI) vcl cI cJ (gsM a th t78z_tr t_dp379 t_zi380 t78z_co t_sh381 t_lt382 ts f_mf383) A s.heap H1 locs1 := ⟨by rw [← ht]; exact hI1, hS⟩
                            obtain ⟨-, -, ⟨o391, o392⟩, ⟨o393, o394⟩, -, ⟨o395, o396⟩, ⟨o397, o398⟩, -, -⟩ := id c384
                            clear hpost hI1 hS ht hWt
                            revert hI; generalize H1 = H; generalize locs1 = locs; intro hI
                            exact j240z _ _ _ v78z_1 v78z_2 z74 z223 z335 t78z_tr t_dp379 t_zi380 t78z_co t_sh381 t_lt382 f_mf383 hI c384 (by omega) (by omega) (by omega) (by omega) (by omega) (by omega) (by omega) (by omega) (by omega) (by omega) (by omega) (by omega) (by omega) (lv_sub hl [3, 4, 5, 2, 1, 0] rfl)
                      · refine lv_aload_n hx hb d_Mo_step_205 rfl (lv_at hl 3 rfl) ?_
                        refine lv_iload_n hx hb d_Mo_step_206 rfl (lv_at hl 2 rfl) ?_
                        refine tz_call (A1 := ga (adM a) H.size) (tz_runV (C := "StoryMachineModel") (As := [.int z74]) (rest := []) ⟨hx, hb, hml, hown, hts⟩ (c_Mo_none l hfl dC dI cI cJ a H.size th t78z_tr dp t78z_zi t78z_co sh lt ts mf z74 c102 (by omega) (by omega) (by omega)) (tx_cb (n := 1) hts rfl rfl ⟨Nat.le_of_ble_eq_true rfl, Nat.le_of_ble_eq_true rfl⟩ (tx_code.of (hts _ mw_1421)) (hts _ mw_12) (by decide +kernel) (hts _ mw_1418)) (hts _ mw_1420) (hts _ ms_Mo_none) ⟨tz_blind, sv_recv (q0 := 0) hts in_Mo hK hI kM_0 rfl, fun U hU hW => ⟨rfl, by rw [hU], by rw [hU]; exact hI.1, va_K.moved hW.alike hK, hst _ _ hI.2 U hU hW⟩⟩ rfl rfl hl.1 rfl (lv_room (Nat.le_of_ble_eq_true rfl)) d_Mo_step_207 ⟨Nat.le_of_ble_eq_true rfl, Nat.le_of_ble_eq_true rfl⟩) hI.2 (fun q _ h => ga_sub hAC hA0 hI.2 q h) (ga_sub hAC hA0 hI.2) (fun v t H1 locs1 ht hWt hpost _ _ hS => ?_) (fun x t H1 locs1 ht hWt hpost _ _ hS => (hpost.2 x rfl).elim)
                        rcases hpost.1 _ rfl with ⟨t_tr399, t_dp400, t_zi401, t_sh402, f_mf403, hv, c404, c404_0, c404_1, c404_2, hI1⟩ | ⟨hv, c405, c405_0, hI1⟩ | ⟨t_dp406, t_zi407, t_sh408, f_mf409, hv, c410, c410_0, c410_1, c410_2, hI1⟩
                        · cases hv
                          have hI : sI (dC, dI) vcl cI cJ (gsM a th t_tr399 t_dp400 t_zi401 t78z_co t_sh402 lt ts f_mf403) A s.heap H1 locs1 := ⟨by rw [← ht]; exact hI1, hS⟩
                          obtain ⟨-, ⟨o411, o412⟩, ⟨o413, o414⟩, ⟨o415, o416⟩, -, ⟨o417, o418⟩, -, -, -⟩ := id c404
                          clear hpost hI1 hS ht hWt
                          revert hI; generalize H1 = H; generalize locs1 = locs; intro hI
                          refine lv_goto (tgt := 240) hx hb d_Mo_step_210 (by decide) ?_
                          exact j240p _ _ _ v78z_1 v78z_2 z74 z223 z335 t_tr399 t_dp400 t_zi401 t78z_co t_sh402 lt f_mf403 hI c404 (by omega) (by omega) (by omega) (by omega) (by omega) (by omega) (by omega) (by omega) (by omega) (by omega) (by omega) (by omega) (by omega) (lv_sub hl [3, 4, 5, 2, 1, 0] rfl)
                        · cases hv
                          have hI : sI (dC, dI) vcl cI cJ (gsM a th t78z_tr dp t78z_zi t78z_co sh lt ts mf) A s.heap H1 locs1 := ⟨by rw [← ht]; exact hI1, hS⟩
                          clear hpost hI1 hS ht hWt
                          revert hI; generalize H1 = H; generalize locs1 = locs; intro hI
                          refine lv_goto (tgt := 240) hx hb d_Mo_step_210 (by decide) ?_
                          exact j240z _ _ _ v78z_1 v78z_2 z74 z223 z335 t78z_tr dp t78z_zi t78z_co sh lt mf hI c405 (by omega) (by omega) (by omega) (by omega) (by omega) (by omega) (by omega) (by omega) (by omega) (by omega) (by omega) (by omega) (by omega) (lv_sub hl [3, 4, 5, 2, 1, 0] rfl)
                        · cases hv
                          have hI : sI (dC, dI) vcl cI cJ (gsM a th t78z_tr t_dp406 t_zi407 t78z_co t_sh408 lt ts f_mf409) A s.heap H1 locs1 := ⟨by rw [← ht]; exact hI1, hS⟩
                          obtain ⟨-, -, ⟨o419, o420⟩, ⟨o421, o422⟩, -, ⟨o423, o424⟩, -, -, -⟩ := id c410
                          clear hpost hI1 hS ht hWt
                          revert hI; generalize H1 = H; generalize locs1 = locs; intro hI
                          refine lv_goto (tgt := 240) hx hb d_Mo_step_210 (by decide) ?_
                          exact j240z _ _ _ v78z_1 v78z_2 z74 z223 z335 t78z_tr t_dp406 t_zi407 t78z_co t_sh408 lt f_mf409 hI c410 (by omega) (by omega) (by omega) (by omega) (by omega) (by omega) (by omega) (by omega) (by omega) (by omega) (by omega) (by omega) (by omega) (lv_sub hl [3, 4, 5, 2, 1, 0] rfl)
                    · refine lv_aload_n hx hb d_Mo_step_190 rfl (lv_at hl 3 rfl) ?_
                      refine lv_iload_n hx hb d_Mo_step_191 rfl (lv_at hl 2 rfl) ?_
                      refine lv_iload hx hb d_Mo_step_192 (lv_at hl 1 rfl) ?_
                      refine tz_call (A1 := ga (adM a) H.size) (tz_runV (C := "StoryMachineModel") (As := [.int z74, .int z223]) (rest := []) ⟨hx, hb, hml, hown, hts⟩ (c_Mo_first l hfl dC dI cI cJ a H.size th t78z_tr dp t78z_zi t78z_co sh lt ts mf z74 z223 c102 (by omega) (by omega) (by omega) (by omega) (by omega)) (tx_cb (n := 2) hts rfl rfl ⟨Nat.le_of_ble_eq_true rfl, Nat.le_of_ble_eq_true rfl⟩ (tx_code.of (hts _ mw_1389)) (hts _ mw_12) (by decide +kernel) (hts _ mw_1386)) (hts _ mw_1388) (hts _ ms_Mo_first) ⟨tz_blind, sv_recv (q0 := 0) hts in_Mo hK hI kM_0 rfl, fun U hU hW => ⟨rfl, by rw [hU], by rw [hU]; exact hI.1, va_K.moved hW.alike hK, hst _ _ hI.2 U hU hW⟩⟩ rfl rfl hl.1 rfl (lv_room (Nat.le_of_ble_eq_true rfl)) d_Mo_step_194 ⟨Nat.le_of_ble_eq_true rfl, Nat.le_of_ble_eq_true rfl⟩) hI.2 (fun q _ h => ga_sub hAC hA0 hI.2 q h) (ga_sub hAC hA0 hI.2) (fun v t H1 locs1 ht hWt hpost _ _ hS => ?_) (fun x t H1 locs1 ht hWt hpost _ _ hS => (hpost.2 x rfl).elim)
                      rcases hpost.1 _ rfl with ⟨t_tr425, t_dp426, t_zi427, t_sh428, f_mf429, hv, c430, c430_0, c430_1, hI1⟩ | ⟨hv, c431, c431_0, c431_1, hI1⟩ | ⟨t_dp432, t_zi433, t_sh434, f_mf435, hv, c436, c436_0, c436_1, hI1⟩
                      · cases hv
                        have hI : sI (dC, dI) vcl cI cJ (gsM a th t_tr425 t_dp426 t_zi427 t78z_co t_sh428 lt ts f_mf429) A s.heap H1 locs1 := ⟨by rw [← ht]; exact hI1, hS⟩
                        obtain ⟨-, ⟨o437, o438⟩, ⟨o439, o440⟩, ⟨o441, o442⟩, -, ⟨o443, o444⟩, -, -, -⟩ := id c430
                        clear hpost hI1 hS ht hWt
                        revert hI; generalize H1 = H; generalize locs1 = locs; intro hI
                        refine lv_goto (tgt := 240) hx hb d_Mo_step_197 (by decide) ?_
                        exact j240p _ _ _ v78z_1 v78z_2 z74 z223 z335 t_tr425 t_dp426 t_zi427 t78z_co t_sh428 lt f_mf429 hI c430 (by omega) (by omega) (by omega) (by omega) (by omega) (by omega) (by omega) (by omega) (by omega) (by omega) (by omega) (by omega) (by omega) (lv_sub hl [3, 4, 5, 2, 1, 0] rfl)
                      · cases hv
                        have hI : sI (dC, dI) vcl cI cJ (gsM a th t78z_tr dp t78z_zi t78z_co sh lt ts mf) A s.heap H1 locs1 := ⟨by rw [← ht]; exact hI1, hS⟩
                        clear hpost hI1 hS ht hWt
                        revert hI; generalize H1 = H; generalize locs1 = locs; intro hI
                        refine lv_goto (tgt := 240) hx hb d_Mo_step_197 (by decide) ?_
                        exact j240z _ _ _ v78z_1 v78z_2 z74 z223 z335 t78z_tr dp t78z_zi t78z_co sh lt mf hI c431 (by omega) (by omega) (by omega) (by omega) (by omega) (by omega) (by omega) (by omega) (by omega) (by omega) (by omega) (by omega) (by omega) (lv_sub hl [3, 4, 5, 2, 1, 0] rfl)
                      · cases hv
                        have hI : sI (dC, dI) vcl cI cJ (gsM a th t78z_tr t_dp432 t_zi433 t78z_co t_sh434 lt ts f_mf435) A s.heap H1 locs1 := ⟨by rw [← ht]; exact hI1, hS⟩
                        obtain ⟨-, -, ⟨o445, o446⟩, ⟨o447, o448⟩, -, ⟨o449, o450⟩, -, -, -⟩ := id c436
                        clear hpost hI1 hS ht hWt
                        revert hI; generalize H1 = H; generalize locs1 = locs; intro hI
                        refine lv_goto (tgt := 240) hx hb d_Mo_step_197 (by decide) ?_
                        exact j240z _ _ _ v78z_1 v78z_2 z74 z223 z335 t78z_tr t_dp432 t_zi433 t78z_co t_sh434 lt f_mf435 hI c436 (by omega) (by omega) (by omega) (by omega) (by omega) (by omega) (by omega) (by omega) (by omega) (by omega) (by omega) (by omega) (by omega) (lv_sub hl [3, 4, 5, 2, 1, 0] rfl)
                  · refine lv_aload_n hx hb d_Mo_step_173 rfl (lv_at hl 3 rfl) ?_
                    refine lv_iload_n hx hb d_Mo_step_174 rfl (lv_at hl 2 rfl) ?_
                    refine lv_iload hx hb d_Mo_step_175 (lv_at hl 1 rfl) ?_
                    refine lv_iload hx hb d_Mo_step_177 (lv_at hl 0 rfl) ?_
                    refine tz_call (A1 := ga (adM a) H.size) (tz_runV (C := "StoryMachineModel") (As := [.int z74, .int z223, .int z335]) (rest := []) ⟨hx, hb, hml, hown, hts⟩ (c_Mo_second l hfl dC dI cI cJ a H.size th t78z_tr dp t78z_zi t78z_co sh lt ts mf z74 z223 z335 c102 (by omega) (by omega) (by omega) (by omega) (by omega) (by omega)) (tx_cb (n := 3) hts rfl rfl ⟨Nat.le_of_ble_eq_true rfl, Nat.le_of_ble_eq_true rfl⟩ (tx_code.of (hts _ mw_1284)) (hts _ mw_12) (by decide +kernel) (hts _ mw_1281)) (hts _ mw_1283) (hts _ ms_Mo_second) ⟨tz_blind, sv_recv (q0 := 0) hts in_Mo hK hI kM_0 rfl, fun U hU hW => ⟨rfl, by rw [hU], by rw [hU]; exact hI.1, va_K.moved hW.alike hK, hst _ _ hI.2 U hU hW⟩⟩ rfl rfl hl.1 rfl (lv_room (Nat.le_of_ble_eq_true rfl)) d_Mo_step_179 ⟨Nat.le_of_ble_eq_true rfl, Nat.le_of_ble_eq_true rfl⟩) hI.2 (fun q _ h => ga_sub hAC hA0 hI.2 q h) (ga_sub hAC hA0 hI.2) (fun v t H1 locs1 ht hWt hpost _ _ hS => ?_) (fun x t H1 locs1 ht hWt hpost _ _ hS => (hpost.2 x rfl).elim)
                    rcases hpost.1 _ rfl with ⟨t_tr451, t_dp452, t_zi453, f_mf454, hv, c455, c455_0, hI1⟩ | ⟨t_dp456, t_zi457, f_mf458, hv, c459, c459_0, hI1⟩
                    · cases hv
                      have hI : sI (dC, dI) vcl cI cJ (gsM a th t_tr451 t_dp452 t_zi453 t78z_co sh lt ts f_mf454) A s.heap H1 locs1 := ⟨by rw [← ht]; exact hI1, hS⟩
                      obtain ⟨-, ⟨o460, o461⟩, ⟨o462, o463⟩, ⟨o464, o465⟩, -, -, -, -, -⟩ := id c455
                      clear hpost hI1 hS ht hWt
                      revert hI; generalize H1 = H; generalize locs1 = locs; intro hI
                      refine lv_goto (tgt := 240) hx hb d_Mo_step_182 (by decide) ?_
                      exact j240p _ _ _ v78z_1 v78z_2 z74 z223 z335 t_tr451 t_dp452 t_zi453 t78z_co sh lt f_mf454 hI c455 (by omega) (by omega) (by omega) (by omega) (by omega) (by omega) (by omega) (by omega) (by omega) (by omega) (by omega) (by omega) (by omega) (lv_sub hl [3, 4, 5, 2, 1, 0] rfl)
                    · cases hv
                      have hI : sI (dC, dI) vcl cI cJ (gsM a th t78z_tr t_dp456 t_zi457 t78z_co sh lt ts f_mf458) A s.heap H1 locs1 := ⟨by rw [← ht]; exact hI1, hS⟩
                      obtain ⟨-, -, ⟨o466, o467⟩, ⟨o468, o469⟩, -, -, -, -, -⟩ := id c459
                      clear hpost hI1 hS ht hWt
                      revert hI; generalize H1 = H; generalize locs1 = locs; intro hI
                      refine lv_goto (tgt := 240) hx hb d_Mo_step_182 (by decide) ?_
                      exact j240z _ _ _ v78z_1 v78z_2 z74 z223 z335 t78z_tr t_dp456 t_zi457 t78z_co sh lt f_mf458 hI c459 (by omega) (by omega) (by omega) (by omega) (by omega) (by omega) (by omega) (by omega) (by omega) (by omega) (by omega) (by omega) (by omega) (lv_sub hl [3, 4, 5, 2, 1, 0] rfl)
            · omega
        · omega
  refine lv_aload_n hx hb d_Mo_step_0 rfl (lv_at hl 0 rfl) ?_
  refine sn_iconst hx hb d_Mo_step_1 (by decide) (fun z470 hz470 => ?_)
  refine sv_put (C := "StoryMachineModel") (T := T_Mo) (N := 51) (ty := .int) hx hb hts in_Mo t_Mo tk_Mo nm_Mo hown hK (sh_in adM_map hAC) hI 0 kM_0 rfl 25 (by decide) (hts _ mw_1088) rfl (by decide +kernel) rfl rfl (Nat.le_of_ble_eq_true rfl) (Int.le_refl _) (Int.le_refl _) pM_0_25 d_Mo_step_2 (fun H locs hI => ?_)
  refine lv_aload_n hx hb d_Mo_step_5 rfl (lv_at hl 0 rfl) ?_
  refine sn_iconst hx hb d_Mo_step_6 (by decide) (fun z471 hz471 => ?_)
  refine sv_put (C := "StoryMachineModel") (T := T_Mo) (N := 51) (ty := .boolean) hx hb hts in_Mo t_Mo tk_Mo nm_Mo hown hK (sh_in adM_map hAC) hI 0 kM_0 rfl 26 (by decide) (hts _ mw_1089) rfl (by decide +kernel) (sn_bool (by omega) (by omega)).1 (sn_bool (by omega) (by omega)).2 (Nat.le_of_ble_eq_true rfl) (by omega) (by omega) pM_0_26 d_Mo_step_7 (fun H locs hI => ?_)
  refine lv_aload_n hx hb d_Mo_step_10 rfl (lv_at hl 0 rfl) ?_
  refine lv_aload_n hx hb d_Mo_step_11 rfl (lv_at hl 0 rfl) ?_
  refine sv_get (C := "StoryMachineModel") (T := T_Mo) (N := 51) hx hb hts in_Mo hown hK hI 0 kM_0 rfl 27 (by decide) (hts _ mw_1090) rfl d_Mo_step_12 (fun z472 hz472a hz472b => ?_)
  refine sv_put (C := "StoryMachineModel") (T := T_Mo) (N := 51) (ty := .int) hx hb hts in_Mo t_Mo tk_Mo nm_Mo hown hK (sh_in adM_map hAC) hI 0 kM_0 rfl 28 (by decide) (hts _ mw_1091) rfl (by decide +kernel) rfl rfl (Nat.le_of_ble_eq_true rfl) (by omega) (by omega) pM_0_28 d_Mo_step_15 (fun H locs hI => ?_)
  refine lv_aload_n hx hb d_Mo_step_18 rfl (lv_at hl 0 rfl) ?_
  have ho473 : okM th z470.toInt dp zi co sh lt ts mf := ⟨hok.1, ⟨by omega, by omega⟩, hok.2.2.1, hok.2.2.2.1, hok.2.2.2.2.1, hok.2.2.2.2.2.1, hok.2.2.2.2.2.2.1, hok.2.2.2.2.2.2.2.1, hok.2.2.2.2.2.2.2.2⟩
  refine tz_call (A1 := ga (adM a) H.size) (tz_runV (C := "StoryMachineModel") (As := []) (rest := []) ⟨hx, hb, hml, hown, hts⟩ (c_Mo_code l hfl dC dI cI cJ a H.size th z470.toInt dp zi co sh lt ts mf  ho473) (tx_cb (n := 0) hts rfl rfl ⟨Nat.le_of_ble_eq_true rfl, Nat.le_of_ble_eq_true rfl⟩ (tx_code.of (hts _ mw_1232)) (hts _ mw_12) (by decide +kernel) (hts _ mw_1229)) (hts _ mw_1231) (hts _ ms_Mo_code) ⟨tz_blind, sv_recv (q0 := 0) hts in_Mo hK hI kM_0 rfl, fun U hU hW => ⟨rfl, by rw [hU], by rw [hU]; exact hI.1, va_K.moved hW.alike hK, hst _ _ hI.2 U hU hW⟩⟩ rfl rfl hl.1 rfl (lv_room (Nat.le_of_ble_eq_true rfl)) d_Mo_step_19 ⟨Nat.le_of_ble_eq_true rfl, Nat.le_of_ble_eq_true rfl⟩) hI.2 (fun q _ h => ga_sub hAC hA0 hI.2 q h) (ga_sub hAC hA0 hI.2) (fun v t H1 locs1 ht hWt hpost _ _ hS => ?_) (fun x t H1 locs1 ht hWt hpost _ _ hS => (hpost.2 x rfl).elim)
  rcases hpost.1 _ rfl with ⟨z474, t_tr475, hv, c476, c476_0, c476_1, c476_2, hI1⟩ | ⟨z477, hv, c478, c478_0, c478_1, c478_2, hI1⟩
  · cases hv
    have hI : sI (dC, dI) vcl cI cJ (gsM a th t_tr475 dp zi co sh lt ts mf) A s.heap H1 locs1 := ⟨by rw [← ht]; exact hI1, hS⟩
    obtain ⟨-, ⟨o479, o480⟩, -, -, -, -, -, -, -⟩ := id c476
    clear hpost hI1 hS ht hWt
    revert hI; generalize H1 = H; generalize locs1 = locs; intro hI
    refine lv_istore_n (lv' := [(1, .int z474), (0, .ref (a 0))]) hx hb d_Mo_step_22 rfl hl (by decide) rfl (fun ls hl => ?_)
    refine lv_aload_n hx hb d_Mo_step_23 rfl (lv_at hl 1 rfl) ?_
    refine lv_iload_n hx hb d_Mo_step_24 rfl (lv_at hl 0 rfl) ?_
    refine sn_sipush hx hb d_Mo_step_25 (by decide) (fun z481 hz481 => ?_)
    refine sn_icmp_ne (tgt := 38) hx hb d_Mo_step_28 (by decide) (fun b482 => ?_) (fun b482 => ?_)
    · refine sn_iconst hx hb d_Mo_step_38 (by decide) (fun z483 hz483 => ?_)
      refine lv_goto (tgt := 43) hx hb d_Mo_step_39 (by decide) ?_
      refine sn_iconst hx hb d_Mo_step_43 (by decide) (fun z484 hz484 => ?_)
      refine tz_call (A1 := ga (adM a) H.size) (tz_runV (C := "StoryMachineModel") (As := [.int z483, .int z484]) (rest := []) ⟨hx, hb, hml, hown, hts⟩ (c_Mo_good l hfl dC dI cI cJ a H.size th t_tr475 dp zi co sh lt ts mf z483 z484 c476 (by omega) (by omega) (by omega) (by omega)) (tx_cb (n := 2) hts rfl rfl ⟨Nat.le_of_ble_eq_true rfl, Nat.le_of_ble_eq_true rfl⟩ (tx_code.of (hts _ mw_1240)) (hts _ mw_12) (by decide +kernel) (hts _ mw_1237)) (hts _ mw_1239) (hts _ ms_Mo_good) ⟨tz_blind, sv_recv (q0 := 0) hts in_Mo hK hI kM_0 rfl, fun U hU hW => ⟨rfl, by rw [hU], by rw [hU]; exact hI.1, va_K.moved hW.alike hK, hst _ _ hI.2 U hU hW⟩⟩ rfl rfl hl.1 rfl (lv_room (Nat.le_of_ble_eq_true rfl)) d_Mo_step_44 ⟨Nat.le_of_ble_eq_true rfl, Nat.le_of_ble_eq_true rfl⟩) hI.2 (fun q _ h => ga_sub hAC hA0 hI.2 q h) (ga_sub hAC hA0 hI.2) (fun v t H1 locs1 ht hWt hpost _ _ hS => ?_) (fun x t H1 locs1 ht hWt hpost _ _ hS => (hpost.2 x rfl).elim)
      rcases hpost.1 _ rfl with ⟨z485, t_tr486, hv, c487, c487_0, c487_1, c487_2, c487_3, hI1⟩ | ⟨z488, hv, c489, c489_0, c489_1, c489_2, c489_3, hI1⟩
      · cases hv
        have hI : sI (dC, dI) vcl cI cJ (gsM a th t_tr486 dp zi co sh lt ts mf) A s.heap H1 locs1 := ⟨by rw [← ht]; exact hI1, hS⟩
        obtain ⟨-, ⟨o490, o491⟩, -, -, -, -, -, -, -⟩ := id c487
        clear hpost hI1 hS ht hWt
        revert hI; generalize H1 = H; generalize locs1 = locs; intro hI
        refine sn_if_ne (tgt := 51) hx hb d_Mo_step_47 (by decide) (fun b492 => ?_) (fun b492 => ?_)
        · omega
        · subst hZ
          exact tz_ret (W.vret hx hb hr (fun t ht hW => ⟨⟨fun v9 hv9 => by cases hv9; exact (Or.inl ⟨t_tr486, dp, zi, co, sh, lt, mf, rfl, c487, by omega, by omega, by rw [ht]; exact hI.1⟩), fun x9 hx9 => (by cases hx9)⟩, hI.2.F ht⟩) hI.2.2.2 d_Mo_step_50)
      · omega
    · omega
  · cases hv
    have hI : sI (dC, dI) vcl cI cJ (gsM a th z470.toInt dp zi co sh lt ts mf) A s.heap H1 locs1 := ⟨by rw [← ht]; exact hI1, hS⟩
    clear hpost hI1 hS ht hWt
    revert hI; generalize H1 = H; generalize locs1 = locs; intro hI
    refine lv_istore_n (lv' := [(1, .int z477), (0, .ref (a 0))]) hx hb d_Mo_step_22 rfl hl (by decide) rfl (fun ls hl => ?_)
    refine lv_aload_n hx hb d_Mo_step_23 rfl (lv_at hl 1 rfl) ?_
    refine lv_iload_n hx hb d_Mo_step_24 rfl (lv_at hl 0 rfl) ?_
    refine sn_sipush hx hb d_Mo_step_25 (by decide) (fun z493 hz493 => ?_)
    refine sn_icmp_ne (tgt := 38) hx hb d_Mo_step_28 (by decide) (fun b494 => ?_) (fun b494 => ?_)
    · refine sn_iconst hx hb d_Mo_step_38 (by decide) (fun z495 hz495 => ?_)
      refine lv_goto (tgt := 43) hx hb d_Mo_step_39 (by decide) ?_
      refine sn_iconst hx hb d_Mo_step_43 (by decide) (fun z496 hz496 => ?_)
      refine tz_call (A1 := ga (adM a) H.size) (tz_runV (C := "StoryMachineModel") (As := [.int z495, .int z496]) (rest := []) ⟨hx, hb, hml, hown, hts⟩ (c_Mo_good l hfl dC dI cI cJ a H.size th z470.toInt dp zi co sh lt ts mf z495 z496 c478 (by omega) (by omega) (by omega) (by omega)) (tx_cb (n := 2) hts rfl rfl ⟨Nat.le_of_ble_eq_true rfl, Nat.le_of_ble_eq_true rfl⟩ (tx_code.of (hts _ mw_1240)) (hts _ mw_12) (by decide +kernel) (hts _ mw_1237)) (hts _ mw_1239) (hts _ ms_Mo_good) ⟨tz_blind, sv_recv (q0 := 0) hts in_Mo hK hI kM_0 rfl, fun U hU hW => ⟨rfl, by rw [hU], by rw [hU]; exact hI.1, va_K.moved hW.alike hK, hst _ _ hI.2 U hU hW⟩⟩ rfl rfl hl.1 rfl (lv_room (Nat.le_of_ble_eq_true rfl)) d_Mo_step_44 ⟨Nat.le_of_ble_eq_true rfl, Nat.le_of_ble_eq_true rfl⟩) hI.2 (fun q _ h => ga_sub hAC hA0 hI.2 q h) (ga_sub hAC hA0 hI.2) (fun v t H1 locs1 ht hWt hpost _ _ hS => ?_) (fun x t H1 locs1 ht hWt hpost _ _ hS => (hpost.2 x rfl).elim)
      rcases hpost.1 _ rfl with ⟨z497, t_tr498, hv, c499, c499_0, c499_1, c499_2, c499_3, hI1⟩ | ⟨z500, hv, c501, c501_0, c501_1, c501_2, c501_3, hI1⟩
      · cases hv
        have hI : sI (dC, dI) vcl cI cJ (gsM a th t_tr498 dp zi co sh lt ts mf) A s.heap H1 locs1 := ⟨by rw [← ht]; exact hI1, hS⟩
        obtain ⟨-, ⟨o502, o503⟩, -, -, -, -, -, -, -⟩ := id c499
        clear hpost hI1 hS ht hWt
        revert hI; generalize H1 = H; generalize locs1 = locs; intro hI
        refine sn_if_ne (tgt := 51) hx hb d_Mo_step_47 (by decide) (fun b504 => ?_) (fun b504 => ?_)
        · omega
        · subst hZ
          exact tz_ret (W.vret hx hb hr (fun t ht hW => ⟨⟨fun v9 hv9 => by cases hv9; exact (Or.inl ⟨t_tr498, dp, zi, co, sh, lt, mf, rfl, c499, by omega, by omega, by rw [ht]; exact hI.1⟩), fun x9 hx9 => (by cases hx9)⟩, hI.2.F ht⟩) hI.2.2.2 d_Mo_step_50)
      · cases hv
        have hI : sI (dC, dI) vcl cI cJ (gsM a th z470.toInt dp zi co sh lt ts mf) A s.heap H1 locs1 := ⟨by rw [← ht]; exact hI1, hS⟩
        clear hpost hI1 hS ht hWt
        revert hI; generalize H1 = H; generalize locs1 = locs; intro hI
        refine sn_if_ne (tgt := 51) hx hb d_Mo_step_47 (by decide) (fun b505 => ?_) (fun b505 => ?_)
        · refine lv_aload_n hx hb d_Mo_step_51 rfl (lv_at hl 1 rfl) ?_
          refine lv_iload_n hx hb d_Mo_step_52 rfl (lv_at hl 0 rfl) ?_
          refine tz_call (A1 := ga (adM a) H.size) (tz_runV (C := "StoryMachineModel") (As := [.int z477]) (rest := []) ⟨hx, hb, hml, hown, hts⟩ (c_Mo_readNumbers l hfl dC dI cI cJ a H.size th z470.toInt dp zi co sh lt ts mf z477 c501 (by omega) (by omega)) (tx_cb (n := 1) hts rfl rfl ⟨Nat.le_of_ble_eq_true rfl, Nat.le_of_ble_eq_true rfl⟩ (tx_code.of (hts _ mw_1244)) (hts _ mw_12) (by decide +kernel) (hts _ mw_1241)) (hts _ mw_1243) (hts _ ms_Mo_readNumbers) ⟨tz_blind, sv_recv (q0 := 0) hts in_Mo hK hI kM_0 rfl, fun U hU hW => ⟨rfl, by rw [hU], by rw [hU]; exact hI.1, va_K.moved hW.alike hK, hst _ _ hI.2 U hU hW⟩⟩ rfl rfl hl.1 rfl (lv_room (Nat.le_of_ble_eq_true rfl)) d_Mo_step_53 ⟨Nat.le_of_ble_eq_true rfl, Nat.le_of_ble_eq_true rfl⟩) hI.2 (fun q _ h => ga_sub hAC hA0 hI.2 q h) (ga_sub hAC hA0 hI.2) (fun v t H1 locs1 ht hWt hpost _ _ hS => ?_) (fun x t H1 locs1 ht hWt hpost _ _ hS => (hpost.2 x rfl).elim)
          rcases hpost.1 _ rfl with ⟨t_tr506, t_zi507, t_co508, hv, c509, c509_0, hI1⟩ | ⟨t_co510, hv, c511, c511_0, c511_1, c511_2, hI1⟩ | ⟨t_zi512, t_co513, hv, c514, c514_0, hI1⟩
          · cases hv
            have hI : sI (dC, dI) vcl cI cJ (gsM a th t_tr506 dp t_zi507 t_co508 sh lt ts mf) A s.heap H1 locs1 := ⟨by rw [← ht]; exact hI1, hS⟩
            obtain ⟨-, ⟨o515, o516⟩, -, ⟨o517, o518⟩, ⟨o519, o520⟩, -, -, -, -⟩ := id c509
            clear hpost hI1 hS ht hWt
            revert hI; generalize H1 = H; generalize locs1 = locs; intro hI
            refine lv_aload_n hx hb d_Mo_step_56 rfl (lv_at hl 1 rfl) ?_
            refine sv_gete (C := "StoryMachineModel") (T := T_Mo) (N := 51) hx hb hts in_Mo hown hK hI 0 kM_0 rfl 25 (by decide) (hts _ mw_1088) rfl d_Mo_step_57 (fun z521 hz521 => ?_)
            refine sn_if_le (tgt := 64) hx hb d_Mo_step_60 (by decide) (fun b522 => ?_) (fun b522 => ?_)
            · omega
            · subst hZ
              exact tz_ret (W.vret hx hb hr (fun t ht hW => ⟨⟨fun v9 hv9 => by cases hv9; exact (Or.inl ⟨t_tr506, dp, t_zi507, t_co508, sh, lt, mf, rfl, c509, by omega, by omega, by rw [ht]; exact hI.1⟩), fun x9 hx9 => (by cases hx9)⟩, hI.2.F ht⟩) hI.2.2.2 d_Mo_step_63)
          · cases hv
            have hI : sI (dC, dI) vcl cI cJ (gsM a th z470.toInt dp zi t_co510 sh lt ts mf) A s.heap H1 locs1 := ⟨by rw [← ht]; exact hI1, hS⟩
            obtain ⟨-, -, -, -, ⟨o523, o524⟩, -, -, -, -⟩ := id c511
            clear hpost hI1 hS ht hWt
            revert hI; generalize H1 = H; generalize locs1 = locs; intro hI
            refine lv_aload_n hx hb d_Mo_step_56 rfl (lv_at hl 1 rfl) ?_
            refine sv_gete (C := "StoryMachineModel") (T := T_Mo) (N := 51) hx hb hts in_Mo hown hK hI 0 kM_0 rfl 25 (by decide) (hts _ mw_1088) rfl d_Mo_step_57 (fun z525 hz525 => ?_)
            refine sn_if_le (tgt := 64) hx hb d_Mo_step_60 (by decide) (fun b526 => ?_) (fun b526 => ?_)
            · refine lv_iload_n hx hb d_Mo_step_64 rfl (lv_at hl 0 rfl) ?_
              refine tz_call (A1 := ga (adM a) H.size) (tz_runS (As := [.int z477]) (rest := []) ⟨hx, hb, hml, hown, hts⟩ (c_Mo_listOf l hfl dC dI cI cJ a H.size th z470.toInt dp zi t_co510 sh lt ts mf z477 c511) (tx_cb (n := 1) hts rfl rfl ⟨Nat.le_of_ble_eq_true rfl, Nat.le_of_ble_eq_true rfl⟩ (tx_code.of (hts _ mw_1267)) (hts _ mw_12) (by decide +kernel) (hts _ mw_1265)) (hts _ mw_1266) ⟨tz_blind, fun U hU hW => ⟨rfl, by rw [hU], by rw [hU]; exact hI.1, va_K.moved hW.alike hK, hst _ _ hI.2 U hU hW⟩⟩ rfl rfl hl.1 rfl (lv_room (Nat.le_of_ble_eq_true rfl)) d_Mo_step_65 ⟨Nat.le_of_ble_eq_true rfl, Nat.le_of_ble_eq_true rfl⟩) hI.2 (fun q _ h => ga_sub hAC hA0 hI.2 q h) (ga_sub hAC hA0 hI.2) (fun v t H1 locs1 ht hWt hpost _ _ hS => ?_) (fun x t H1 locs1 ht hWt hpost _ _ hS => (hpost.2 x rfl).elim)
              rcases hpost.1 _ rfl with ⟨z527, hv, c528, c528_0, c528_1, hI1⟩
              cases hv
              have hI : sI (dC, dI) vcl cI cJ (gsM a th z470.toInt dp zi t_co510 sh lt ts mf) A s.heap H1 locs1 := ⟨by rw [← ht]; exact hI1, hS⟩
              clear hpost hI1 hS ht hWt
              revert hI; generalize H1 = H; generalize locs1 = locs; intro hI
              refine lv_istore_n (lv' := [(2, .int z527), (1, .int z477), (0, .ref (a 0))]) hx hb d_Mo_step_68 rfl hl (by decide) rfl (fun ls hl => ?_)
              refine lv_iload_n hx hb d_Mo_step_69 rfl (lv_at hl 0 rfl) ?_
              refine sn_if_eq (tgt := 78) hx hb d_Mo_step_70 (by decide) (fun b529 => ?_) (fun b529 => ?_)
              · exact j78z _ _ _ z477 z527 z470.toInt zi t_co510 hI c528 (by omega) (by omega) (by omega) (by omega) (by omega) (by omega) (by omega) (lv_sub hl [2, 1, 0] rfl)
              · refine lv_iload_n hx hb d_Mo_step_73 rfl (lv_at hl 0 rfl) ?_
                refine sn_iconst hx hb d_Mo_step_74 (by decide) (fun z530 hz530 => ?_)
                refine sn_icmp_ne (tgt := 85) hx hb d_Mo_step_75 (by decide) (fun b531 => ?_) (fun b531 => ?_)
                · refine lv_iload_n hx hb d_Mo_step_85 rfl (lv_at hl 1 rfl) ?_
                  refine sn_bipush hx hb d_Mo_step_86 (by decide) (fun z532 hz532 => ?_)
                  refine sn_irem (k := 16) hx hb d_Mo_step_88 (by omega) (by omega) (by omega) (fun z533 hz533 => ?_)
                  refine lv_istore_n (lv' := [(3, .int z533), (2, .int z527), (1, .int z477), (0, .ref (a 0))]) hx hb d_Mo_step_89 rfl hl (by decide) rfl (fun ls hl => ?_)
                  refine lv_aload_n hx hb d_Mo_step_90 rfl (lv_at hl 3 rfl) ?_
                  refine lv_aload_n hx hb d_Mo_step_91 rfl (lv_at hl 3 rfl) ?_
                  refine sv_gete (C := "StoryMachineModel") (T := T_Mo) (N := 51) hx hb hts in_Mo hown hK hI 0 kM_0 rfl 38 (by decide) (hts _ mw_1101) rfl d_Mo_step_92 (fun z534 hz534 => ?_)
                  refine lv_iload_n hx hb d_Mo_step_95 rfl (lv_at hl 1 rfl) ?_
                  refine lv_iload_n hx hb d_Mo_step_96 rfl (lv_at hl 0 rfl) ?_
                  refine tz_call (A1 := ga (adM a) H.size) (tz_runS (As := [.int z527, .int z533]) (rest := [.int z534, .ref (a 0)]) ⟨hx, hb, hml, hown, hts⟩ (c_Mo_least l hfl dC dI cI cJ a H.size th z470.toInt dp zi t_co510 sh lt ts mf z527 z533 c528) (tx_cb (n := 2) hts rfl rfl ⟨Nat.le_of_ble_eq_true rfl, Nat.le_of_ble_eq_true rfl⟩ (tx_code.of (hts _ mw_1270)) (hts _ mw_12) (by decide +kernel) (hts _ mw_1268)) (hts _ mw_1269) ⟨tz_blind, fun U hU hW => ⟨rfl, by rw [hU], by rw [hU]; exact hI.1, va_K.moved hW.alike hK, hst _ _ hI.2 U hU hW⟩⟩ rfl rfl hl.1 rfl (lv_room (Nat.le_of_ble_eq_true rfl)) d_Mo_step_97 ⟨Nat.le_of_ble_eq_true rfl, Nat.le_of_ble_eq_true rfl⟩) hI.2 (fun q _ h => ga_sub hAC hA0 hI.2 q h) (ga_sub hAC hA0 hI.2) (fun v t H1 locs1 ht hWt hpost _ _ hS => ?_) (fun x t H1 locs1 ht hWt hpost _ _ hS => (hpost.2 x rfl).elim)
                  rcases hpost.1 _ rfl with ⟨z535, hv, c536, c536_0, c536_1, hI1⟩
                  cases hv
                  have hI : sI (dC, dI) vcl cI cJ (gsM a th z470.toInt dp zi t_co510 sh lt ts mf) A s.heap H1 locs1 := ⟨by rw [← ht]; exact hI1, hS⟩
                  clear hpost hI1 hS ht hWt
                  revert hI; generalize H1 = H; generalize locs1 = locs; intro hI
                  refine sn_icmp_lt (tgt := 107) hx hb d_Mo_step_100 (by decide) (fun b537 => ?_) (fun b537 => ?_)
                  · refine sn_iconst hx hb d_Mo_step_107 (by decide) (fun z538 hz538 => ?_)
                    refine sn_iconst hx hb d_Mo_step_108 (by decide) (fun z539 hz539 => ?_)
                    refine tz_call (A1 := ga (adM a) H.size) (tz_runV (C := "StoryMachineModel") (As := [.int z538, .int z539]) (rest := []) ⟨hx, hb, hml, hown, hts⟩ (c_Mo_good l hfl dC dI cI cJ a H.size th z470.toInt dp zi t_co510 sh lt ts mf z538 z539 c536 (by omega) (by omega) (by omega) (by omega)) (tx_cb (n := 2) hts rfl rfl ⟨Nat.le_of_ble_eq_true rfl, Nat.le_of_ble_eq_true rfl⟩ (tx_code.of (hts _ mw_1240)) (hts _ mw_12) (by decide +kernel) (hts _ mw_1237)) (hts _ mw_1239) (hts _ ms_Mo_good) ⟨tz_blind, sv_recv (q0 := 0) hts in_Mo hK hI kM_0 rfl, fun U hU hW => ⟨rfl, by rw [hU], by rw [hU]; exact hI.1, va_K.moved hW.alike hK, hst _ _ hI.2 U hU hW⟩⟩ rfl rfl hl.1 rfl (lv_room (Nat.le_of_ble_eq_true rfl)) d_Mo_step_109 ⟨Nat.le_of_ble_eq_true rfl, Nat.le_of_ble_eq_true rfl⟩) hI.2 (fun q _ h => ga_sub hAC hA0 hI.2 q h) (ga_sub hAC hA0 hI.2) (fun v t H1 locs1 ht hWt hpost _ _ hS => ?_) (fun x t H1 locs1 ht hWt hpost _ _ hS => (hpost.2 x rfl).elim)
                    rcases hpost.1 _ rfl with ⟨z540, t_tr541, hv, c542, c542_0, c542_1, c542_2, c542_3, hI1⟩ | ⟨z543, hv, c544, c544_0, c544_1, c544_2, c544_3, hI1⟩
                    · cases hv
                      have hI : sI (dC, dI) vcl cI cJ (gsM a th t_tr541 dp zi t_co510 sh lt ts mf) A s.heap H1 locs1 := ⟨by rw [← ht]; exact hI1, hS⟩
                      obtain ⟨-, ⟨o545, o546⟩, -, -, -, -, -, -, -⟩ := id c542
                      clear hpost hI1 hS ht hWt
                      revert hI; generalize H1 = H; generalize locs1 = locs; intro hI
                      refine sn_if_ne (tgt := 116) hx hb d_Mo_step_112 (by decide) (fun b547 => ?_) (fun b547 => ?_)
                      · omega
                      · subst hZ
                        exact tz_ret (W.vret hx hb hr (fun t ht hW => ⟨⟨fun v9 hv9 => by cases hv9; exact (Or.inl ⟨t_tr541, dp, zi, t_co510, sh, lt, mf, rfl, c542, by omega, by omega, by rw [ht]; exact hI.1⟩), fun x9 hx9 => (by cases hx9)⟩, hI.2.F ht⟩) hI.2.2.2 d_Mo_step_115)
                    · omega
                  · refine sn_iconst hx hb d_Mo_step_103 (by decide) (fun z548 hz548 => ?_)
                    refine lv_goto (tgt := 108) hx hb d_Mo_step_104 (by decide) ?_
                    refine sn_iconst hx hb d_Mo_step_108 (by decide) (fun z549 hz549 => ?_)
                    refine tz_call (A1 := ga (adM a) H.size) (tz_runV (C := "StoryMachineModel") (As := [.int z548, .int z549]) (rest := []) ⟨hx, hb, hml, hown, hts⟩ (c_Mo_good l hfl dC dI cI cJ a H.size th z470.toInt dp zi t_co510 sh lt ts mf z548 z549 c536 (by omega) (by omega) (by omega) (by omega)) (tx_cb (n := 2) hts rfl rfl ⟨Nat.le_of_ble_eq_true rfl, Nat.le_of_ble_eq_true rfl⟩ (tx_code.of (hts _ mw_1240)) (hts _ mw_12) (by decide +kernel) (hts _ mw_1237)) (hts _ mw_1239) (hts _ ms_Mo_good) ⟨tz_blind, sv_recv (q0 := 0) hts in_Mo hK hI kM_0 rfl, fun U hU hW => ⟨rfl, by rw [hU], by rw [hU]; exact hI.1, va_K.moved hW.alike hK, hst _ _ hI.2 U hU hW⟩⟩ rfl rfl hl.1 rfl (lv_room (Nat.le_of_ble_eq_true rfl)) d_Mo_step_109 ⟨Nat.le_of_ble_eq_true rfl, Nat.le_of_ble_eq_true rfl⟩) hI.2 (fun q _ h => ga_sub hAC hA0 hI.2 q h) (ga_sub hAC hA0 hI.2) (fun v t H1 locs1 ht hWt hpost _ _ hS => ?_) (fun x t H1 locs1 ht hWt hpost _ _ hS => (hpost.2 x rfl).elim)
                    rcases hpost.1 _ rfl with ⟨z550, t_tr551, hv, c552, c552_0, c552_1, c552_2, c552_3, hI1⟩ | ⟨z553, hv, c554, c554_0, c554_1, c554_2, c554_3, hI1⟩
                    · cases hv
                      have hI : sI (dC, dI) vcl cI cJ (gsM a th t_tr551 dp zi t_co510 sh lt ts mf) A s.heap H1 locs1 := ⟨by rw [← ht]; exact hI1, hS⟩
                      obtain ⟨-, ⟨o555, o556⟩, -, -, -, -, -, -, -⟩ := id c552
                      clear hpost hI1 hS ht hWt
                      revert hI; generalize H1 = H; generalize locs1 = locs; intro hI
                      refine sn_if_ne (tgt := 116) hx hb d_Mo_step_112 (by decide) (fun b557 => ?_) (fun b557 => ?_)
                      · omega
                      · subst hZ
                        exact tz_ret (W.vret hx hb hr (fun t ht hW => ⟨⟨fun v9 hv9 => by cases hv9; exact (Or.inl ⟨t_tr551, dp, zi, t_co510, sh, lt, mf, rfl, c552, by omega, by omega, by rw [ht]; exact hI.1⟩), fun x9 hx9 => (by cases hx9)⟩, hI.2.F ht⟩) hI.2.2.2 d_Mo_step_115)
                    · cases hv
                      have hI : sI (dC, dI) vcl cI cJ (gsM a th z470.toInt dp zi t_co510 sh lt ts mf) A s.heap H1 locs1 := ⟨by rw [← ht]; exact hI1, hS⟩
                      clear hpost hI1 hS ht hWt
                      revert hI; generalize H1 = H; generalize locs1 = locs; intro hI
                      refine sn_if_ne (tgt := 116) hx hb d_Mo_step_112 (by decide) (fun b558 => ?_) (fun b558 => ?_)
                      · refine lv_aload_n hx hb d_Mo_step_116 rfl (lv_at hl 3 rfl) ?_
                        refine lv_iload_n hx hb d_Mo_step_117 rfl (lv_at hl 1 rfl) ?_
                        refine lv_iload_n hx hb d_Mo_step_118 rfl (lv_at hl 0 rfl) ?_
                        refine tz_call (A1 := ga (adM a) H.size) (tz_runV (C := "StoryMachineModel") (As := [.int z527, .int z533]) (rest := []) ⟨hx, hb, hml, hown, hts⟩ (c_Mo_readRest l hfl dC dI cI cJ a H.size th z470.toInt dp zi t_co510 sh lt ts mf z527 z533 c554) (tx_cb (n := 2) hts rfl rfl ⟨Nat.le_of_ble_eq_true rfl, Nat.le_of_ble_eq_true rfl⟩ (tx_code.of (hts _ mw_1274)) (hts _ mw_12) (by decide +kernel) (hts _ mw_1271)) (hts _ mw_1273) (hts _ ms_Mo_readRest) ⟨tz_blind, sv_recv (q0 := 0) hts in_Mo hK hI kM_0 rfl, fun U hU hW => ⟨rfl, by rw [hU], by rw [hU]; exact hI.1, va_K.moved hW.alike hK, hst _ _ hI.2 U hU hW⟩⟩ rfl rfl hl.1 rfl (lv_room (Nat.le_of_ble_eq_true rfl)) d_Mo_step_119 ⟨Nat.le_of_ble_eq_true rfl, Nat.le_of_ble_eq_true rfl⟩) hI.2 (fun q _ h => ga_sub hAC hA0 hI.2 q h) (ga_sub hAC hA0 hI.2) (fun v t H1 locs1 ht hWt hpost _ _ hS => ?_) (fun x t H1 locs1 ht hWt hpost _ _ hS => (hpost.2 x rfl).elim)
                        rcases hpost.1 _ rfl with ⟨t_tr559, hv, c560, c560_0, hI1⟩ | ⟨hv, c561, c561_0, hI1⟩
                        · cases hv
                          have hI : sI (dC, dI) vcl cI cJ (gsM a th t_tr559 dp zi t_co510 sh lt ts mf) A s.heap H1 locs1 := ⟨by rw [← ht]; exact hI1, hS⟩
                          obtain ⟨-, ⟨o562, o563⟩, -, -, -, -, -, -, -⟩ := id c560
                          clear hpost hI1 hS ht hWt
                          revert hI; generalize H1 = H; generalize locs1 = locs; intro hI
                          refine lv_aload_n hx hb d_Mo_step_122 rfl (lv_at hl 3 rfl) ?_
                          refine sv_gete (C := "StoryMachineModel") (T := T_Mo) (N := 51) hx hb hts in_Mo hown hK hI 0 kM_0 rfl 25 (by decide) (hts _ mw_1088) rfl d_Mo_step_123 (fun z564 hz564 => ?_)
                          refine sn_if_le (tgt := 130) hx hb d_Mo_step_126 (by decide) (fun b565 => ?_) (fun b565 => ?_)
                          · omega
                          · subst hZ
                            exact tz_ret (W.vret hx hb hr (fun t ht hW => ⟨⟨fun v9 hv9 => by cases hv9; exact (Or.inl ⟨t_tr559, dp, zi, t_co510, sh, lt, mf, rfl, c560, by omega, by omega, by rw [ht]; exact hI.1⟩), fun x9 hx9 => (by cases hx9)⟩, hI.2.F ht⟩) hI.2.2.2 d_Mo_step_129)
                        · cases hv
                          have hI : sI (dC, dI) vcl cI cJ (gsM a th z470.toInt dp zi t_co510 sh lt ts mf) A s.heap H1 locs1 := ⟨by rw [← ht]; exact hI1, hS⟩
                          clear hpost hI1 hS ht hWt
                          revert hI; generalize H1 = H; generalize locs1 = locs; intro hI
                          refine lv_aload_n hx hb d_Mo_step_122 rfl (lv_at hl 3 rfl) ?_
                          refine sv_gete (C := "StoryMachineModel") (T := T_Mo) (N := 51) hx hb hts in_Mo hown hK hI 0 kM_0 rfl 25 (by decide) (hts _ mw_1088) rfl d_Mo_step_123 (fun z566 hz566 => ?_)
                          refine sn_if_le (tgt := 130) hx hb d_Mo_step_126 (by decide) (fun b567 => ?_) (fun b567 => ?_)
                          · refine lv_aload_n hx hb d_Mo_step_130 rfl (lv_at hl 3 rfl) ?_
                            refine sv_gete (C := "StoryMachineModel") (T := T_Mo) (N := 51) hx hb hts in_Mo hown hK hI 0 kM_0 rfl 38 (by decide) (hts _ mw_1101) rfl d_Mo_step_131 (fun z568 hz568 => ?_)
                            refine sn_if_le (tgt := 146) hx hb d_Mo_step_134 (by decide) (fun b569 => ?_) (fun b569 => ?_)
                            · refine sn_iconst hx hb d_Mo_step_146 (by decide) (fun z570 hz570 => ?_)
                              refine lv_istore (lv' := [(4, .int z570), (3, .int z533), (2, .int z527), (1, .int z477), (0, .ref (a 0))]) hx hb d_Mo_step_147 hl (by decide) rfl (fun ls hl => ?_)
                              refine lv_aload_n hx hb d_Mo_step_149 rfl (lv_at hl 4 rfl) ?_
                              refine sv_gete (C := "StoryMachineModel") (T := T_Mo) (N := 51) hx hb hts in_Mo hown hK hI 0 kM_0 rfl 38 (by decide) (hts _ mw_1101) rfl d_Mo_step_150 (fun z571 hz571 => ?_)
                              refine sn_iconst hx hb d_Mo_step_153 (by decide) (fun z572 hz572 => ?_)
                              refine sn_icmp_le (tgt := 166) hx hb d_Mo_step_154 (by decide) (fun b573 => ?_) (fun b573 => ?_)
                              · refine sn_iconst hx hb d_Mo_step_166 (by decide) (fun z574 hz574 => ?_)
                                refine lv_istore (lv' := [(5, .int z574), (4, .int z570), (3, .int z533), (2, .int z527), (1, .int z477), (0, .ref (a 0))]) hx hb d_Mo_step_167 hl (by decide) rfl (fun ls hl => ?_)
                                refine lv_iload_n hx hb d_Mo_step_169 rfl (lv_at hl 3 rfl) ?_
                                refine sn_if_ne (tgt := 185) hx hb d_Mo_step_170 (by decide) (fun b575 => ?_) (fun b575 => ?_)
                                · refine lv_iload_n hx hb d_Mo_step_185 rfl (lv_at hl 3 rfl) ?_
                                  refine sn_iconst hx hb d_Mo_step_186 (by decide) (fun z576 hz576 => ?_)
                                  refine sn_icmp_ne (tgt := 200) hx hb d_Mo_step_187 (by decide) (fun b577 => ?_) (fun b577 => ?_)
                                  · refine lv_iload_n hx hb d_Mo_step_200 rfl (lv_at hl 3 rfl) ?_
                                    refine sn_iconst hx hb d_Mo_step_201 (by decide) (fun z578 hz578 => ?_)
                                    refine sn_icmp_ne (tgt := 213) hx hb d_Mo_step_202 (by decide) (fun b579 => ?_) (fun b579 => ?_)
                                    · omega
                                    · refine lv_aload_n hx hb d_Mo_step_205 rfl (lv_at hl 5 rfl) ?_
                                      refine lv_iload_n hx hb d_Mo_step_206 rfl (lv_at hl 2 rfl) ?_
                                      refine tz_call (A1 := ga (adM a) H.size) (tz_runV (C := "StoryMachineModel") (As := [.int z533]) (rest := []) ⟨hx, hb, hml, hown, hts⟩ (c_Mo_none l hfl dC dI cI cJ a H.size th z470.toInt dp zi t_co510 sh lt ts mf z533 c561 (by omega) (by omega) (by omega)) (tx_cb (n := 1) hts rfl rfl ⟨Nat.le_of_ble_eq_true rfl, Nat.le_of_ble_eq_true rfl⟩ (tx_code.of (hts _ mw_1421)) (hts _ mw_12) (by decide +kernel) (hts _ mw_1418)) (hts _ mw_1420) (hts _ ms_Mo_none) ⟨tz_blind, sv_recv (q0 := 0) hts in_Mo hK hI kM_0 rfl, fun U hU hW => ⟨rfl, by rw [hU], by rw [hU]; exact hI.1, va_K.moved hW.alike hK, hst _ _ hI.2 U hU hW⟩⟩ rfl rfl hl.1 rfl (lv_room (Nat.le_of_ble_eq_true rfl)) d_Mo_step_207 ⟨Nat.le_of_ble_eq_true rfl, Nat.le_of_ble_eq_true rfl⟩) hI.2 (fun q _ h => ga_sub hAC hA0 hI.2 q h) (ga_sub hAC hA0 hI.2) (fun v t H1 locs1 ht hWt hpost _ _ hS => ?_) (fun x t H1 locs1 ht hWt hpost _ _ hS => (hpost.2 x rfl).elim)
                                      rcases hpost.1 _ rfl with ⟨t_tr580, t_dp581, t_zi582, t_sh583, f_mf584, hv, c585, c585_0, c585_1, c585_2, hI1⟩ | ⟨hv, c586, c586_0, hI1⟩ | ⟨t_dp587, t_zi588, t_sh589, f_mf590, hv, c591, c591_0, c591_1, c591_2, hI1⟩
                                      · cases hv
                                        have hI : sI (dC, dI) vcl cI cJ (gsM a th t_tr580 t_dp581 t_zi582 t_co510 t_sh583 lt ts f_mf584) A s.heap H1 locs1 := ⟨by rw [← ht]; exact hI1, hS⟩
                                        obtain ⟨-, ⟨o592, o593⟩, ⟨o594, o595⟩, ⟨o596, o597⟩, -, ⟨o598, o599⟩, -, -, -⟩ := id c585
                                        clear hpost hI1 hS ht hWt
                                        revert hI; generalize H1 = H; generalize locs1 = locs; intro hI
                                        refine lv_goto (tgt := 240) hx hb d_Mo_step_210 (by decide) ?_
                                        exact j240p _ _ _ z477 z527 z533 z570 z574 t_tr580 t_dp581 t_zi582 t_co510 t_sh583 lt f_mf584 hI c585 (by omega) (by omega) (by omega) (by omega) (by omega) (by omega) (by omega) (by omega) (by omega) (by omega) (by omega) (by omega) (by omega) (lv_sub hl [5, 4, 3, 2, 1, 0] rfl)
                                      · cases hv
                                        have hI : sI (dC, dI) vcl cI cJ (gsM a th z470.toInt dp zi t_co510 sh lt ts mf) A s.heap H1 locs1 := ⟨by rw [← ht]; exact hI1, hS⟩
                                        clear hpost hI1 hS ht hWt
                                        revert hI; generalize H1 = H; generalize locs1 = locs; intro hI
                                        refine lv_goto (tgt := 240) hx hb d_Mo_step_210 (by decide) ?_
                                        exact j240z _ _ _ z477 z527 z533 z570 z574 z470.toInt dp zi t_co510 sh lt mf hI c586 (by omega) (by omega) (by omega) (by omega) (by omega) (by omega) (by omega) (by omega) (by omega) (by omega) (by omega) (by omega) (by omega) (lv_sub hl [5, 4, 3, 2, 1, 0] rfl)
                                      · cases hv
                                        have hI : sI (dC, dI) vcl cI cJ (gsM a th z470.toInt t_dp587 t_zi588 t_co510 t_sh589 lt ts f_mf590) A s.heap H1 locs1 := ⟨by rw [← ht]; exact hI1, hS⟩
                                        obtain ⟨-, -, ⟨o600, o601⟩, ⟨o602, o603⟩, -, ⟨o604, o605⟩, -, -, -⟩ := id c591
                                        clear hpost hI1 hS ht hWt
                                        revert hI; generalize H1 = H; generalize locs1 = locs; intro hI
                                        refine lv_goto (tgt := 240) hx hb d_Mo_step_210 (by decide) ?_
                                        exact j240z _ _ _ z477 z527 z533 z570 z574 z470.toInt t_dp587 t_zi588 t_co510 t_sh589 lt f_mf590 hI c591 (by omega) (by omega) (by omega) (by omega) (by omega) (by omega) (by omega) (by omega) (by omega) (by omega) (by omega) (by omega) (by omega) (lv_sub hl [5, 4, 3, 2, 1, 0] rfl)
                                  · refine lv_aload_n hx hb d_Mo_step_190 rfl (lv_at hl 5 rfl) ?_
                                    refine lv_iload_n hx hb d_Mo_step_191 rfl (lv_at hl 2 rfl) ?_
                                    refine lv_iload hx hb d_Mo_step_192 (lv_at hl 1 rfl) ?_
                                    refine tz_call (A1 := ga (adM a) H.size) (tz_runV (C := "StoryMachineModel") (As := [.int z533, .int z570]) (rest := []) ⟨hx, hb, hml, hown, hts⟩ (c_Mo_first l hfl dC dI cI cJ a H.size th z470.toInt dp zi t_co510 sh lt ts mf z533 z570 c561 (by omega) (by omega) (by omega) (by omega) (by omega)) (tx_cb (n := 2) hts rfl rfl ⟨Nat.le_of_ble_eq_true rfl, Nat.le_of_ble_eq_true rfl⟩ (tx_code.of (hts _ mw_1389)) (hts _ mw_12) (by decide +kernel) (hts _ mw_1386)) (hts _ mw_1388) (hts _ ms_Mo_first) ⟨tz_blind, sv_recv (q0 := 0) hts in_Mo hK hI kM_0 rfl, fun U hU hW => ⟨rfl, by rw [hU], by rw [hU]; exact hI.1, va_K.moved hW.alike hK, hst _ _ hI.2 U hU hW⟩⟩ rfl rfl hl.1 rfl (lv_room (Nat.le_of_ble_eq_true rfl)) d_Mo_step_194 ⟨Nat.le_of_ble_eq_true rfl, Nat.le_of_ble_eq_true rfl⟩) hI.2 (fun q _ h => ga_sub hAC hA0 hI.2 q h) (ga_sub hAC hA0 hI.2) (fun v t H1 locs1 ht hWt hpost _ _ hS => ?_) (fun x t H1 locs1 ht hWt hpost _ _ hS => (hpost.2 x rfl).elim)
                                    rcases hpost.1 _ rfl with ⟨t_tr606, t_dp607, t_zi608, t_sh609, f_mf610, hv, c611, c611_0, c611_1, hI1⟩ | ⟨hv, c612, c612_0, c612_1, hI1⟩ | ⟨t_dp613, t_zi614, t_sh615, f_mf616, hv, c617, c617_0, c617_1, hI1⟩
                                    · cases hv
                                      have hI : sI (dC, dI) vcl cI cJ (gsM a th t_tr606 t_dp607 t_zi608 t_co510 t_sh609 lt ts f_mf610) A s.heap H1 locs1 := ⟨by rw [← ht]; exact hI1, hS⟩
                                      obtain ⟨-, ⟨o618, o619⟩, ⟨o620, o621⟩, ⟨o622, o623⟩, -, ⟨o624, o625⟩, -, -, -⟩ := id c611
                                      clear hpost hI1 hS ht hWt
                                      revert hI; generalize H1 = H; generalize locs1 = locs; intro hI
                                      refine lv_goto (tgt := 240) hx hb d_Mo_step_197 (by decide) ?_
                                      exact j240p _ _ _ z477 z527 z533 z570 z574 t_tr606 t_dp607 t_zi608 t_co510 t_sh609 lt f_mf610 hI c611 (by omega) (by omega) (by omega) (by omega) (by omega) (by omega) (by omega) (by omega) (by omega) (by omega) (by omega) (by omega) (by omega) (lv_sub hl [5, 4, 3, 2, 1, 0] rfl)
                                    · cases hv
                                      have hI : sI (dC, dI) vcl cI cJ (gsM a th z470.toInt dp zi t_co510 sh lt ts mf) A s.heap H1 locs1 := ⟨by rw [← ht]; exact hI1, hS⟩
                                      clear hpost hI1 hS ht hWt
                                      revert hI; generalize H1 = H; generalize locs1 = locs; intro hI
                                      refine lv_goto (tgt := 240) hx hb d_Mo_step_197 (by decide) ?_
                                      exact j240z _ _ _ z477 z527 z533 z570 z574 z470.toInt dp zi t_co510 sh lt mf hI c612 (by omega) (by omega) (by omega) (by omega) (by omega) (by omega) (by omega) (by omega) (by omega) (by omega) (by omega) (by omega) (by omega) (lv_sub hl [5, 4, 3, 2, 1, 0] rfl)
                                    · cases hv
                                      have hI : sI (dC, dI) vcl cI cJ (gsM a th z470.toInt t_dp613 t_zi614 t_co510 t_sh615 lt ts f_mf616) A s.heap H1 locs1 := ⟨by rw [← ht]; exact hI1, hS⟩
                                      obtain ⟨-, -, ⟨o626, o627⟩, ⟨o628, o629⟩, -, ⟨o630, o631⟩, -, -, -⟩ := id c617
                                      clear hpost hI1 hS ht hWt
                                      revert hI; generalize H1 = H; generalize locs1 = locs; intro hI
                                      refine lv_goto (tgt := 240) hx hb d_Mo_step_197 (by decide) ?_
                                      exact j240z _ _ _ z477 z527 z533 z570 z574 z470.toInt t_dp613 t_zi614 t_co510 t_sh615 lt f_mf616 hI c617 (by omega) (by omega) (by omega) (by omega) (by omega) (by omega) (by omega) (by omega) (by omega) (by omega) (by omega) (by omega) (by omega) (lv_sub hl [5, 4, 3, 2, 1, 0] rfl)
                                · omega
                              · omega
                            · omega
                          · omega
                      · omega
                · exact j78z _ _ _ z477 z527 z470.toInt zi t_co510 hI c528 (by omega) (by omega) (by omega) (by omega) (by omega) (by omega) (by omega) (lv_sub hl [2, 1, 0] rfl)
            · omega
          · cases hv
            have hI : sI (dC, dI) vcl cI cJ (gsM a th z470.toInt dp t_zi512 t_co513 sh lt ts mf) A s.heap H1 locs1 := ⟨by rw [← ht]; exact hI1, hS⟩
            obtain ⟨-, -, -, ⟨o632, o633⟩, ⟨o634, o635⟩, -, -, -, -⟩ := id c514
            clear hpost hI1 hS ht hWt
            revert hI; generalize H1 = H; generalize locs1 = locs; intro hI
            refine lv_aload_n hx hb d_Mo_step_56 rfl (lv_at hl 1 rfl) ?_
            refine sv_gete (C := "StoryMachineModel") (T := T_Mo) (N := 51) hx hb hts in_Mo hown hK hI 0 kM_0 rfl 25 (by decide) (hts _ mw_1088) rfl d_Mo_step_57 (fun z636 hz636 => ?_)
            refine sn_if_le (tgt := 64) hx hb d_Mo_step_60 (by decide) (fun b637 => ?_) (fun b637 => ?_)
            · refine lv_iload_n hx hb d_Mo_step_64 rfl (lv_at hl 0 rfl) ?_
              refine tz_call (A1 := ga (adM a) H.size) (tz_runS (As := [.int z477]) (rest := []) ⟨hx, hb, hml, hown, hts⟩ (c_Mo_listOf l hfl dC dI cI cJ a H.size th z470.toInt dp t_zi512 t_co513 sh lt ts mf z477 c514) (tx_cb (n := 1) hts rfl rfl ⟨Nat.le_of_ble_eq_true rfl, Nat.le_of_ble_eq_true rfl⟩ (tx_code.of (hts _ mw_1267)) (hts _ mw_12) (by decide +kernel) (hts _ mw_1265)) (hts _ mw_1266) ⟨tz_blind, fun U hU hW => ⟨rfl, by rw [hU], by rw [hU]; exact hI.1, va_K.moved hW.alike hK, hst _ _ hI.2 U hU hW⟩⟩ rfl rfl hl.1 rfl (lv_room (Nat.le_of_ble_eq_true rfl)) d_Mo_step_65 ⟨Nat.le_of_ble_eq_true rfl, Nat.le_of_ble_eq_true rfl⟩) hI.2 (fun q _ h => ga_sub hAC hA0 hI.2 q h) (ga_sub hAC hA0 hI.2) (fun v t H1 locs1 ht hWt hpost _ _ hS => ?_) (fun x t H1 locs1 ht hWt hpost _ _ hS => (hpost.2 x rfl).elim)
              rcases hpost.1 _ rfl with ⟨z638, hv, c639, c639_0, c639_1, hI1⟩
              cases hv
              have hI : sI (dC, dI) vcl cI cJ (gsM a th z470.toInt dp t_zi512 t_co513 sh lt ts mf) A s.heap H1 locs1 := ⟨by rw [← ht]; exact hI1, hS⟩
              clear hpost hI1 hS ht hWt
              revert hI; generalize H1 = H; generalize locs1 = locs; intro hI
              refine lv_istore_n (lv' := [(2, .int z638), (1, .int z477), (0, .ref (a 0))]) hx hb d_Mo_step_68 rfl hl (by decide) rfl (fun ls hl => ?_)
              refine lv_iload_n hx hb d_Mo_step_69 rfl (lv_at hl 0 rfl) ?_
              refine sn_if_eq (tgt := 78) hx hb d_Mo_step_70 (by decide) (fun b640 => ?_) (fun b640 => ?_)
              · exact j78z _ _ _ z477 z638 z470.toInt t_zi512 t_co513 hI c639 (by omega) (by omega) (by omega) (by omega) (by omega) (by omega) (by omega) (lv_sub hl [2, 1, 0] rfl)
              · refine lv_iload_n hx hb d_Mo_step_73 rfl (lv_at hl 0 rfl) ?_
                refine sn_iconst hx hb d_Mo_step_74 (by decide) (fun z641 hz641 => ?_)
                refine sn_icmp_ne (tgt := 85) hx hb d_Mo_step_75 (by decide) (fun b642 => ?_) (fun b642 => ?_)
                · refine lv_iload_n hx hb d_Mo_step_85 rfl (lv_at hl 1 rfl) ?_
                  refine sn_bipush hx hb d_Mo_step_86 (by decide) (fun z643 hz643 => ?_)
                  refine sn_irem (k := 16) hx hb d_Mo_step_88 (by omega) (by omega) (by omega) (fun z644 hz644 => ?_)
                  refine lv_istore_n (lv' := [(3, .int z644), (2, .int z638), (1, .int z477), (0, .ref (a 0))]) hx hb d_Mo_step_89 rfl hl (by decide) rfl (fun ls hl => ?_)
                  refine lv_aload_n hx hb d_Mo_step_90 rfl (lv_at hl 3 rfl) ?_
                  refine lv_aload_n hx hb d_Mo_step_91 rfl (lv_at hl 3 rfl) ?_
                  refine sv_gete (C := "StoryMachineModel") (T := T_Mo) (N := 51) hx hb hts in_Mo hown hK hI 0 kM_0 rfl 38 (by decide) (hts _ mw_1101) rfl d_Mo_step_92 (fun z645 hz645 => ?_)
                  refine lv_iload_n hx hb d_Mo_step_95 rfl (lv_at hl 1 rfl) ?_
                  refine lv_iload_n hx hb d_Mo_step_96 rfl (lv_at hl 0 rfl) ?_
                  refine tz_call (A1 := ga (adM a) H.size) (tz_runS (As := [.int z638, .int z644]) (rest := [.int z645, .ref (a 0)]) ⟨hx, hb, hml, hown, hts⟩ (c_Mo_least l hfl dC dI cI cJ a H.size th z470.toInt dp t_zi512 t_co513 sh lt ts mf z638 z644 c639) (tx_cb (n := 2) hts rfl rfl ⟨Nat.le_of_ble_eq_true rfl, Nat.le_of_ble_eq_true rfl⟩ (tx_code.of (hts _ mw_1270)) (hts _ mw_12) (by decide +kernel) (hts _ mw_1268)) (hts _ mw_1269) ⟨tz_blind, fun U hU hW => ⟨rfl, by rw [hU], by rw [hU]; exact hI.1, va_K.moved hW.alike hK, hst _ _ hI.2 U hU hW⟩⟩ rfl rfl hl.1 rfl (lv_room (Nat.le_of_ble_eq_true rfl)) d_Mo_step_97 ⟨Nat.le_of_ble_eq_true rfl, Nat.le_of_ble_eq_true rfl⟩) hI.2 (fun q _ h => ga_sub hAC hA0 hI.2 q h) (ga_sub hAC hA0 hI.2) (fun v t H1 locs1 ht hWt hpost _ _ hS => ?_) (fun x t H1 locs1 ht hWt hpost _ _ hS => (hpost.2 x rfl).elim)
                  rcases hpost.1 _ rfl with ⟨z646, hv, c647, c647_0, c647_1, hI1⟩
                  cases hv
                  have hI : sI (dC, dI) vcl cI cJ (gsM a th z470.toInt dp t_zi512 t_co513 sh lt ts mf) A s.heap H1 locs1 := ⟨by rw [← ht]; exact hI1, hS⟩
                  clear hpost hI1 hS ht hWt
                  revert hI; generalize H1 = H; generalize locs1 = locs; intro hI
                  refine sn_icmp_lt (tgt := 107) hx hb d_Mo_step_100 (by decide) (fun b648 => ?_) (fun b648 => ?_)
                  · refine sn_iconst hx hb d_Mo_step_107 (by decide) (fun z649 hz649 => ?_)
                    refine sn_iconst hx hb d_Mo_step_108 (by decide) (fun z650 hz650 => ?_)
                    refine tz_call (A1 := ga (adM a) H.size) (tz_runV (C := "StoryMachineModel") (As := [.int z649, .int z650]) (rest := []) ⟨hx, hb, hml, hown, hts⟩ (c_Mo_good l hfl dC dI cI cJ a H.size th z470.toInt dp t_zi512 t_co513 sh lt ts mf z649 z650 c647 (by omega) (by omega) (by omega) (by omega)) (tx_cb (n := 2) hts rfl rfl ⟨Nat.le_of_ble_eq_true rfl, Nat.le_of_ble_eq_true rfl⟩ (tx_code.of (hts _ mw_1240)) (hts _ mw_12) (by decide +kernel) (hts _ mw_1237)) (hts _ mw_1239) (hts _ ms_Mo_good) ⟨tz_blind, sv_recv (q0 := 0) hts in_Mo hK hI kM_0 rfl, fun U hU hW => ⟨rfl, by rw [hU], by rw [hU]; exact hI.1, va_K.moved hW.alike hK, hst _ _ hI.2 U hU hW⟩⟩ rfl rfl hl.1 rfl (lv_room (Nat.le_of_ble_eq_true rfl)) d_Mo_step_109 ⟨Nat.le_of_ble_eq_true rfl, Nat.le_of_ble_eq_true rfl⟩) hI.2 (fun q _ h => ga_sub hAC hA0 hI.2 q h) (ga_sub hAC hA0 hI.2) (fun v t H1 locs1 ht hWt hpost _ _ hS => ?_) (fun x t H1 locs1 ht hWt hpost _ _ hS => (hpost.2 x rfl).elim)
                    rcases hpost.1 _ rfl with ⟨z651, t_tr652, hv, c653, c653_0, c653_1, c653_2, c653_3, hI1⟩ | ⟨z654, hv, c655, c655_0, c655_1, c655_2, c655_3, hI1⟩
                    · cases hv
                      have hI : sI (dC, dI) vcl cI cJ (gsM a th t_tr652 dp t_zi512 t_co513 sh lt ts mf) A s.heap H1 locs1 := ⟨by rw [← ht]; exact hI1, hS⟩
                      obtain ⟨-, ⟨o656, o657⟩, -, -, -, -, -, -, -⟩ := id c653
                      clear hpost hI1 hS ht hWt
                      revert hI; generalize H1 = H; generalize locs1 = locs; intro hI
                      refine sn_if_ne (tgt := 116) hx hb d_Mo_step_112 (by decide) (fun b658 => ?_) (fun b658 => ?_)
                      · omega
                      · subst hZ
                        exact tz_ret (W.vret hx hb hr (fun t ht hW => ⟨⟨fun v9 hv9 => by cases hv9; exact (Or.inl ⟨t_tr652, dp, t_zi512, t_co513, sh, lt, mf, rfl, c653, by omega, by omega, by rw [ht]; exact hI.1⟩), fun x9 hx9 => (by cases hx9)⟩, hI.2.F ht⟩) hI.2.2.2 d_Mo_step_115)
                    · omega
                  · refine sn_iconst hx hb d_Mo_step_103 (by decide) (fun z659 hz659 => ?_)
                    refine lv_goto (tgt := 108) hx hb d_Mo_step_104 (by decide) ?_
                    refine sn_iconst hx hb d_Mo_step_108 (by decide) (fun z660 hz660 => ?_)
                    refine tz_call (A1 := ga (adM a) H.size) (tz_runV (C := "StoryMachineModel") (As := [.int z659, .int z660]) (rest := []) ⟨hx, hb, hml, hown, hts⟩ (c_Mo_good l hfl dC dI cI cJ a H.size th z470.toInt dp t_zi512 t_co513 sh lt ts mf z659 z660 c647 (by omega) (by omega) (by omega) (by omega)) (tx_cb (n := 2) hts rfl rfl ⟨Nat.le_of_ble_eq_true rfl, Nat.le_of_ble_eq_true rfl⟩ (tx_code.of (hts _ mw_1240)) (hts _ mw_12) (by decide +kernel) (hts _ mw_1237)) (hts _ mw_1239) (hts _ ms_Mo_good) ⟨tz_blind, sv_recv (q0 := 0) hts in_Mo hK hI kM_0 rfl, fun U hU hW => ⟨rfl, by rw [hU], by rw [hU]; exact hI.1, va_K.moved hW.alike hK, hst _ _ hI.2 U hU hW⟩⟩ rfl rfl hl.1 rfl (lv_room (Nat.le_of_ble_eq_true rfl)) d_Mo_step_109 ⟨Nat.le_of_ble_eq_true rfl, Nat.le_of_ble_eq_true rfl⟩) hI.2 (fun q _ h => ga_sub hAC hA0 hI.2 q h) (ga_sub hAC hA0 hI.2) (fun v t H1 locs1 ht hWt hpost _ _ hS => ?_) (fun x t H1 locs1 ht hWt hpost _ _ hS => (hpost.2 x rfl).elim)
                    rcases hpost.1 _ rfl with ⟨z661, t_tr662, hv, c663, c663_0, c663_1, c663_2, c663_3, hI1⟩ | ⟨z664, hv, c665, c665_0, c665_1, c665_2, c665_3, hI1⟩
                    · cases hv
                      have hI : sI (dC, dI) vcl cI cJ (gsM a th t_tr662 dp t_zi512 t_co513 sh lt ts mf) A s.heap H1 locs1 := ⟨by rw [← ht]; exact hI1, hS⟩
                      obtain ⟨-, ⟨o666, o667⟩, -, -, -, -, -, -, -⟩ := id c663
                      clear hpost hI1 hS ht hWt
                      revert hI; generalize H1 = H; generalize locs1 = locs; intro hI
                      refine sn_if_ne (tgt := 116) hx hb d_Mo_step_112 (by decide) (fun b668 => ?_) (fun b668 => ?_)
                      · omega
                      · subst hZ
                        exact tz_ret (W.vret hx hb hr (fun t ht hW => ⟨⟨fun v9 hv9 => by cases hv9; exact (Or.inl ⟨t_tr662, dp, t_zi512, t_co513, sh, lt, mf, rfl, c663, by omega, by omega, by rw [ht]; exact hI.1⟩), fun x9 hx9 => (by cases hx9)⟩, hI.2.F ht⟩) hI.2.2.2 d_Mo_step_115)
                    · cases hv
                      have hI : sI (dC, dI) vcl cI cJ (gsM a th z470.toInt dp t_zi512 t_co513 sh lt ts mf) A s.heap H1 locs1 := ⟨by rw [← ht]; exact hI1, hS⟩
                      clear hpost hI1 hS ht hWt
                      revert hI; generalize H1 = H; generalize locs1 = locs; intro hI
                      refine sn_if_ne (tgt := 116) hx hb d_Mo_step_112 (by decide) (fun b669 => ?_) (fun b669 => ?_)
                      · refine lv_aload_n hx hb d_Mo_step_116 rfl (lv_at hl 3 rfl) ?_
                        refine lv_iload_n hx hb d_Mo_step_117 rfl (lv_at hl 1 rfl) ?_
                        refine lv_iload_n hx hb d_Mo_step_118 rfl (lv_at hl 0 rfl) ?_
                        refine tz_call (A1 := ga (adM a) H.size) (tz_runV (C := "StoryMachineModel") (As := [.int z638, .int z644]) (rest := []) ⟨hx, hb, hml, hown, hts⟩ (c_Mo_readRest l hfl dC dI cI cJ a H.size th z470.toInt dp t_zi512 t_co513 sh lt ts mf z638 z644 c665) (tx_cb (n := 2) hts rfl rfl ⟨Nat.le_of_ble_eq_true rfl, Nat.le_of_ble_eq_true rfl⟩ (tx_code.of (hts _ mw_1274)) (hts _ mw_12) (by decide +kernel) (hts _ mw_1271)) (hts _ mw_1273) (hts _ ms_Mo_readRest) ⟨tz_blind, sv_recv (q0 := 0) hts in_Mo hK hI kM_0 rfl, fun U hU hW => ⟨rfl, by rw [hU], by rw [hU]; exact hI.1, va_K.moved hW.alike hK, hst _ _ hI.2 U hU hW⟩⟩ rfl rfl hl.1 rfl (lv_room (Nat.le_of_ble_eq_true rfl)) d_Mo_step_119 ⟨Nat.le_of_ble_eq_true rfl, Nat.le_of_ble_eq_true rfl⟩) hI.2 (fun q _ h => ga_sub hAC hA0 hI.2 q h) (ga_sub hAC hA0 hI.2) (fun v t H1 locs1 ht hWt hpost _ _ hS => ?_) (fun x t H1 locs1 ht hWt hpost _ _ hS => (hpost.2 x rfl).elim)
                        rcases hpost.1 _ rfl with ⟨t_tr670, hv, c671, c671_0, hI1⟩ | ⟨hv, c672, c672_0, hI1⟩
                        · cases hv
                          have hI : sI (dC, dI) vcl cI cJ (gsM a th t_tr670 dp t_zi512 t_co513 sh lt ts mf) A s.heap H1 locs1 := ⟨by rw [← ht]; exact hI1, hS⟩
                          obtain ⟨-, ⟨o673, o674⟩, -, -, -, -, -, -, -⟩ := id c671
                          clear hpost hI1 hS ht hWt
                          revert hI; generalize H1 = H; generalize locs1 = locs; intro hI
                          refine lv_aload_n hx hb d_Mo_step_122 rfl (lv_at hl 3 rfl) ?_
                          refine sv_gete (C := "StoryMachineModel") (T := T_Mo) (N := 51) hx hb hts in_Mo hown hK hI 0 kM_0 rfl 25 (by decide) (hts _ mw_1088) rfl d_Mo_step_123 (fun z675 hz675 => ?_)
                          refine sn_if_le (tgt := 130) hx hb d_Mo_step_126 (by decide) (fun b676 => ?_) (fun b676 => ?_)
                          · omega
                          · subst hZ
                            exact tz_ret (W.vret hx hb hr (fun t ht hW => ⟨⟨fun v9 hv9 => by cases hv9; exact (Or.inl ⟨t_tr670, dp, t_zi512, t_co513, sh, lt, mf, rfl, c671, by omega, by omega, by rw [ht]; exact hI.1⟩), fun x9 hx9 => (by cases hx9)⟩, hI.2.F ht⟩) hI.2.2.2 d_Mo_step_129)
                        · cases hv
                          have hI : sI (dC, dI) vcl cI cJ (gsM a th z470.toInt dp t_zi512 t_co513 sh lt ts mf) A s.heap H1 locs1 := ⟨by rw [← ht]; exact hI1, hS⟩
                          clear hpost hI1 hS ht hWt
                          revert hI; generalize H1 = H; generalize locs1 = locs; intro hI
                          refine lv_aload_n hx hb d_Mo_step_122 rfl (lv_at hl 3 rfl) ?_
                          refine sv_gete (C := "StoryMachineModel") (T := T_Mo) (N := 51) hx hb hts in_Mo hown hK hI 0 kM_0 rfl 25 (by decide) (hts _ mw_1088) rfl d_Mo_step_123 (fun z677 hz677 => ?_)
                          refine sn_if_le (tgt := 130) hx hb d_Mo_step_126 (by decide) (fun b678 => ?_) (fun b678 => ?_)
                          · refine lv_aload_n hx hb d_Mo_step_130 rfl (lv_at hl 3 rfl) ?_
                            refine sv_gete (C := "StoryMachineModel") (T := T_Mo) (N := 51) hx hb hts in_Mo hown hK hI 0 kM_0 rfl 38 (by decide) (hts _ mw_1101) rfl d_Mo_step_131 (fun z679 hz679 => ?_)
                            refine sn_if_le (tgt := 146) hx hb d_Mo_step_134 (by decide) (fun b680 => ?_) (fun b680 => ?_)
                            · refine sn_iconst hx hb d_Mo_step_146 (by decide) (fun z681 hz681 => ?_)
                              refine lv_istore (lv' := [(4, .int z681), (3, .int z644), (2, .int z638), (1, .int z477), (0, .ref (a 0))]) hx hb d_Mo_step_147 hl (by decide) rfl (fun ls hl => ?_)
                              refine lv_aload_n hx hb d_Mo_step_149 rfl (lv_at hl 4 rfl) ?_
                              refine sv_gete (C := "StoryMachineModel") (T := T_Mo) (N := 51) hx hb hts in_Mo hown hK hI 0 kM_0 rfl 38 (by decide) (hts _ mw_1101) rfl d_Mo_step_150 (fun z682 hz682 => ?_)
                              refine sn_iconst hx hb d_Mo_step_153 (by decide) (fun z683 hz683 => ?_)
                              refine sn_icmp_le (tgt := 166) hx hb d_Mo_step_154 (by decide) (fun b684 => ?_) (fun b684 => ?_)
                              · refine sn_iconst hx hb d_Mo_step_166 (by decide) (fun z685 hz685 => ?_)
                                refine lv_istore (lv' := [(5, .int z685), (4, .int z681), (3, .int z644), (2, .int z638), (1, .int z477), (0, .ref (a 0))]) hx hb d_Mo_step_167 hl (by decide) rfl (fun ls hl => ?_)
                                refine lv_iload_n hx hb d_Mo_step_169 rfl (lv_at hl 3 rfl) ?_
                                refine sn_if_ne (tgt := 185) hx hb d_Mo_step_170 (by decide) (fun b686 => ?_) (fun b686 => ?_)
                                · refine lv_iload_n hx hb d_Mo_step_185 rfl (lv_at hl 3 rfl) ?_
                                  refine sn_iconst hx hb d_Mo_step_186 (by decide) (fun z687 hz687 => ?_)
                                  refine sn_icmp_ne (tgt := 200) hx hb d_Mo_step_187 (by decide) (fun b688 => ?_) (fun b688 => ?_)
                                  · refine lv_iload_n hx hb d_Mo_step_200 rfl (lv_at hl 3 rfl) ?_
                                    refine sn_iconst hx hb d_Mo_step_201 (by decide) (fun z689 hz689 => ?_)
                                    refine sn_icmp_ne (tgt := 213) hx hb d_Mo_step_202 (by decide) (fun b690 => ?_) (fun b690 => ?_)
                                    · omega
                                    · refine lv_aload_n hx hb d_Mo_step_205 rfl (lv_at hl 5 rfl) ?_
                                      refine lv_iload_n hx hb d_Mo_step_206 rfl (lv_at hl 2 rfl) ?_
                                      refine tz_call (A1 := ga (adM a) H.size) (tz_runV (C := "StoryMachineModel") (As := [.int z644]) (rest := []) ⟨hx, hb, hml, hown, hts⟩ (c_Mo_none l hfl dC dI cI cJ a H.size th z470.toInt dp t_zi512 t_co513 sh lt ts mf z644 c672 (by omega) (by omega) (by omega)) (tx_cb (n := 1) hts rfl rfl ⟨Nat.le_of_ble_eq_true rfl, Nat.le_of_ble_eq_true rfl⟩ (tx_code.of (hts _ mw_1421)) (hts _ mw_12) (by decide +kernel) (hts _ mw_1418)) (hts _ mw_1420) (hts _ ms_Mo_none) ⟨tz_blind, sv_recv (q0 := 0) hts in_Mo hK hI kM_0 rfl, fun U hU hW => ⟨rfl, by rw [hU], by rw [hU]; exact hI.1, va_K.moved hW.alike hK, hst _ _ hI.2 U hU hW⟩⟩ rfl rfl hl.1 rfl (lv_room (Nat.le_of_ble_eq_true rfl)) d_Mo_step_207 ⟨Nat.le_of_ble_eq_true rfl, Nat.le_of_ble_eq_true rfl⟩) hI.2 (fun q _ h => ga_sub hAC hA0 hI.2 q h) (ga_sub hAC hA0 hI.2) (fun v t H1 locs1 ht hWt hpost _ _ hS => ?_) (fun x t H1 locs1 ht hWt hpost _ _ hS => (hpost.2 x rfl).elim)
                                      rcases hpost.1 _ rfl with ⟨t_tr691, t_dp692, t_zi693, t_sh694, f_mf695, hv, c696, c696_0, c696_1, c696_2, hI1⟩ | ⟨hv, c697, c697_0, hI1⟩ | ⟨t_dp698, t_zi699, t_sh700, f_mf701, hv, c702, c702_0, c702_1, c702_2, hI1⟩
                                      · cases hv
                                        have hI : sI (dC, dI) vcl cI cJ (gsM a th t_tr691 t_dp692 t_zi693 t_co513 t_sh694 lt ts f_mf695) A s.heap H1 locs1 := ⟨by rw [← ht]; exact hI1, hS⟩
                                        obtain ⟨-, ⟨o703, o704⟩, ⟨o705, o706⟩, ⟨o707, o708⟩, -, ⟨o709, o710⟩, -, -, -⟩ := id c696
                                        clear hpost hI1 hS ht hWt
                                        revert hI; generalize H1 = H; generalize locs1 = locs; intro hI
                                        refine lv_goto (tgt := 240) hx hb d_Mo_step_210 (by decide) ?_
                                        exact j240p _ _ _ z477 z638 z644 z681 z685 t_tr691 t_dp692 t_zi693 t_co513 t_sh694 lt f_mf695 hI c696 (by omega) (by omega) (by omega) (by omega) (by omega) (by omega) (by omega) (by omega) (by omega) (by omega) (by omega) (by omega) (by omega) (lv_sub hl [5, 4, 3, 2, 1, 0] rfl)
                                      · cases hv
                                        have hI : sI (dC, dI) vcl cI cJ (gsM a th z470.toInt dp t_zi512 t_co513 sh lt ts mf) A s.heap H1 locs1 := ⟨by rw [← ht]; exact hI1, hS⟩
                                        clear hpost hI1 hS ht hWt
                                        revert hI; generalize H1 = H; generalize locs1 = locs; intro hI
                                        refine lv_goto (tgt := 240) hx hb d_Mo_step_210 (by decide) ?_
                                        exact j240z _ _ _ z477 z638 z644 z681 z685 z470.toInt dp t_zi512 t_co513 sh lt mf hI c697 (by omega) (by omega) (by omega) (by omega) (by omega) (by omega) (by omega) (by omega) (by omega) (by omega) (by omega) (by omega) (by omega) (lv_sub hl [5, 4, 3, 2, 1, 0] rfl)
                                      · cases hv
                                        have hI : sI (dC, dI) vcl cI cJ (gsM a th z470.toInt t_dp698 t_zi699 t_co513 t_sh700 lt ts f_mf701) A s.heap H1 locs1 := ⟨by rw [← ht]; exact hI1, hS⟩
                                        obtain ⟨-, -, ⟨o711, o712⟩, ⟨o713, o714⟩, -, ⟨o715, o716⟩, -, -, -⟩ := id c702
                                        clear hpost hI1 hS ht hWt
                                        revert hI; generalize H1 = H; generalize locs1 = locs; intro hI
                                        refine lv_goto (tgt := 240) hx hb d_Mo_step_210 (by decide) ?_
                                        exact j240z _ _ _ z477 z638 z644 z681 z685 z470.toInt t_dp698 t_zi699 t_co513 t_sh700 lt f_mf701 hI c702 (by omega) (by omega) (by omega) (by omega) (by omega) (by omega) (by omega) (by omega) (by omega) (by omega) (by omega) (by omega) (by omega) (lv_sub hl [5, 4, 3, 2, 1, 0] rfl)
                                  · refine lv_aload_n hx hb d_Mo_step_190 rfl (lv_at hl 5 rfl) ?_
                                    refine lv_iload_n hx hb d_Mo_step_191 rfl (lv_at hl 2 rfl) ?_
                                    refine lv_iload hx hb d_Mo_step_192 (lv_at hl 1 rfl) ?_
                                    refine tz_call (A1 := ga (adM a) H.size) (tz_runV (C := "StoryMachineModel") (As := [.int z644, .int z681]) (rest := []) ⟨hx, hb, hml, hown, hts⟩ (c_Mo_first l hfl dC dI cI cJ a H.size th z470.toInt dp t_zi512 t_co513 sh lt ts mf z644 z681 c672 (by omega) (by omega) (by omega) (by omega) (by omega)) (tx_cb (n := 2) hts rfl rfl ⟨Nat.le_of_ble_eq_true rfl, Nat.le_of_ble_eq_true rfl⟩ (tx_code.of (hts _ mw_1389)) (hts _ mw_12) (by decide +kernel) (hts _ mw_1386)) (hts _ mw_1388) (hts _ ms_Mo_first) ⟨tz_blind, sv_recv (q0 := 0) hts in_Mo hK hI kM_0 rfl, fun U hU hW => ⟨rfl, by rw [hU], by rw [hU]; exact hI.1, va_K.moved hW.alike hK, hst _ _ hI.2 U hU hW⟩⟩ rfl rfl hl.1 rfl (lv_room (Nat.le_of_ble_eq_true rfl)) d_Mo_step_194 ⟨Nat.le_of_ble_eq_true rfl, Nat.le_of_ble_eq_true rfl⟩) hI.2 (fun q _ h => ga_sub hAC hA0 hI.2 q h) (ga_sub hAC hA0 hI.2) (fun v t H1 locs1 ht hWt hpost _ _ hS => ?_) (fun x t H1 locs1 ht hWt hpost _ _ hS => (hpost.2 x rfl).elim)
                                    rcases hpost.1 _ rfl with ⟨t_tr717, t_dp718, t_zi719, t_sh720, f_mf721, hv, c722, c722_0, c722_1, hI1⟩ | ⟨hv, c723, c723_0, c723_1, hI1⟩ | ⟨t_dp724, t_zi725, t_sh726, f_mf727, hv, c728, c728_0, c728_1, hI1⟩
                                    · cases hv
                                      have hI : sI (dC, dI) vcl cI cJ (gsM a th t_tr717 t_dp718 t_zi719 t_co513 t_sh720 lt ts f_mf721) A s.heap H1 locs1 := ⟨by rw [← ht]; exact hI1, hS⟩
                                      obtain ⟨-, ⟨o729, o730⟩, ⟨o731, o732⟩, ⟨o733, o734⟩, -, ⟨o735, o736⟩, -, -, -⟩ := id c722
                                      clear hpost hI1 hS ht hWt
                                      revert hI; generalize H1 = H; generalize locs1 = locs; intro hI
                                      refine lv_goto (tgt := 240) hx hb d_Mo_step_197 (by decide) ?_
                                      exact j240p _ _ _ z477 z638 z644 z681 z685 t_tr717 t_dp718 t_zi719 t_co513 t_sh720 lt f_mf721 hI c722 (by omega) (by omega) (by omega) (by omega) (by omega) (by omega) (by omega) (by omega) (by omega) (by omega) (by omega) (by omega) (by omega) (lv_sub hl [5, 4, 3, 2, 1, 0] rfl)
                                    · cases hv
                                      have hI : sI (dC, dI) vcl cI cJ (gsM a th z470.toInt dp t_zi512 t_co513 sh lt ts mf) A s.heap H1 locs1 := ⟨by rw [← ht]; exact hI1, hS⟩
                                      clear hpost hI1 hS ht hWt
                                      revert hI; generalize H1 = H; generalize locs1 = locs; intro hI
                                      refine lv_goto (tgt := 240) hx hb d_Mo_step_197 (by decide) ?_
                                      exact j240z _ _ _ z477 z638 z644 z681 z685 z470.toInt dp t_zi512 t_co513 sh lt mf hI c723 (by omega) (by omega) (by omega) (by omega) (by omega) (by omega) (by omega) (by omega) (by omega) (by omega) (by omega) (by omega) (by omega) (lv_sub hl [5, 4, 3, 2, 1, 0] rfl)
                                    · cases hv
                                      have hI : sI (dC, dI) vcl cI cJ (gsM a th z470.toInt t_dp724 t_zi725 t_co513 t_sh726 lt ts f_mf727) A s.heap H1 locs1 := ⟨by rw [← ht]; exact hI1, hS⟩
                                      obtain ⟨-, -, ⟨o737, o738⟩, ⟨o739, o740⟩, -, ⟨o741, o742⟩, -, -, -⟩ := id c728
                                      clear hpost hI1 hS ht hWt
                                      revert hI; generalize H1 = H; generalize locs1 = locs; intro hI
                                      refine lv_goto (tgt := 240) hx hb d_Mo_step_197 (by decide) ?_
                                      exact j240z _ _ _ z477 z638 z644 z681 z685 z470.toInt t_dp724 t_zi725 t_co513 t_sh726 lt f_mf727 hI c728 (by omega) (by omega) (by omega) (by omega) (by omega) (by omega) (by omega) (by omega) (by omega) (by omega) (by omega) (by omega) (by omega) (lv_sub hl [5, 4, 3, 2, 1, 0] rfl)
                                · omega
                              · omega
                            · refine lv_aload_n hx hb d_Mo_step_137 rfl (lv_at hl 3 rfl) ?_
                              refine sv_getr (C := "StoryMachineModel") (T := T_Mo) (N := 51) hx hb hts in_Mo hown hK hI 0 kM_0 rfl 39 (by decide) (hts _ mw_1102) rfl d_Mo_step_138 ?_
                              refine sn_iconst hx hb d_Mo_step_141 (by decide) (fun z743 hz743 => ?_)
                              refine sv_ialdr hx hb hK hI 18 kM_18 (by omega) (by omega) d_Mo_step_142 (fun z744 hz744a hz744b => ?_)
                              refine lv_goto (tgt := 147) hx hb d_Mo_step_143 (by decide) ?_
                              refine lv_istore (lv' := [(4, .int z744), (3, .int z644), (2, .int z638), (1, .int z477), (0, .ref (a 0))]) hx hb d_Mo_step_147 hl (by decide) rfl (fun ls hl => ?_)
                              refine lv_aload_n hx hb d_Mo_step_149 rfl (lv_at hl 4 rfl) ?_
                              refine sv_gete (C := "StoryMachineModel") (T := T_Mo) (N := 51) hx hb hts in_Mo hown hK hI 0 kM_0 rfl 38 (by decide) (hts _ mw_1101) rfl d_Mo_step_150 (fun z745 hz745 => ?_)
                              refine sn_iconst hx hb d_Mo_step_153 (by decide) (fun z746 hz746 => ?_)
                              refine sn_icmp_le (tgt := 166) hx hb d_Mo_step_154 (by decide) (fun b747 => ?_) (fun b747 => ?_)
                              · refine sn_iconst hx hb d_Mo_step_166 (by decide) (fun z748 hz748 => ?_)
                                refine lv_istore (lv' := [(5, .int z748), (4, .int z744), (3, .int z644), (2, .int z638), (1, .int z477), (0, .ref (a 0))]) hx hb d_Mo_step_167 hl (by decide) rfl (fun ls hl => ?_)
                                refine lv_iload_n hx hb d_Mo_step_169 rfl (lv_at hl 3 rfl) ?_
                                refine sn_if_ne (tgt := 185) hx hb d_Mo_step_170 (by decide) (fun b749 => ?_) (fun b749 => ?_)
                                · refine lv_iload_n hx hb d_Mo_step_185 rfl (lv_at hl 3 rfl) ?_
                                  refine sn_iconst hx hb d_Mo_step_186 (by decide) (fun z750 hz750 => ?_)
                                  refine sn_icmp_ne (tgt := 200) hx hb d_Mo_step_187 (by decide) (fun b751 => ?_) (fun b751 => ?_)
                                  · refine lv_iload_n hx hb d_Mo_step_200 rfl (lv_at hl 3 rfl) ?_
                                    refine sn_iconst hx hb d_Mo_step_201 (by decide) (fun z752 hz752 => ?_)
                                    refine sn_icmp_ne (tgt := 213) hx hb d_Mo_step_202 (by decide) (fun b753 => ?_) (fun b753 => ?_)
                                    · omega
                                    · refine lv_aload_n hx hb d_Mo_step_205 rfl (lv_at hl 5 rfl) ?_
                                      refine lv_iload_n hx hb d_Mo_step_206 rfl (lv_at hl 2 rfl) ?_
                                      refine tz_call (A1 := ga (adM a) H.size) (tz_runV (C := "StoryMachineModel") (As := [.int z644]) (rest := []) ⟨hx, hb, hml, hown, hts⟩ (c_Mo_none l hfl dC dI cI cJ a H.size th z470.toInt dp t_zi512 t_co513 sh lt ts mf z644 c672 (by omega) (by omega) (by omega)) (tx_cb (n := 1) hts rfl rfl ⟨Nat.le_of_ble_eq_true rfl, Nat.le_of_ble_eq_true rfl⟩ (tx_code.of (hts _ mw_1421)) (hts _ mw_12) (by decide +kernel) (hts _ mw_1418)) (hts _ mw_1420) (hts _ ms_Mo_none) ⟨tz_blind, sv_recv (q0 := 0) hts in_Mo hK hI kM_0 rfl, fun U hU hW => ⟨rfl, by rw [hU], by rw [hU]; exact hI.1, va_K.moved hW.alike hK, hst _ _ hI.2 U hU hW⟩⟩ rfl rfl hl.1 rfl (lv_room (Nat.le_of_ble_eq_true rfl)) d_Mo_step_207 ⟨Nat.le_of_ble_eq_true rfl, Nat.le_of_ble_eq_true rfl⟩) hI.2 (fun q _ h => ga_sub hAC hA0 hI.2 q h) (ga_sub hAC hA0 hI.2) (fun v t H1 locs1 ht hWt hpost _ _ hS => ?_) (fun x t H1 locs1 ht hWt hpost _ _ hS => (hpost.2 x rfl).elim)
                                      rcases hpost.1 _ rfl with ⟨t_tr754, t_dp755, t_zi756, t_sh757, f_mf758, hv, c759, c759_0, c759_1, c759_2, hI1⟩ | ⟨hv, c760, c760_0, hI1⟩ | ⟨t_dp761, t_zi762, t_sh763, f_mf764, hv, c765, c765_0, c765_1, c765_2, hI1⟩
                                      · cases hv
                                        have hI : sI (dC, dI) vcl cI cJ (gsM a th t_tr754 t_dp755 t_zi756 t_co513 t_sh757 lt ts f_mf758) A s.heap H1 locs1 := ⟨by rw [← ht]; exact hI1, hS⟩
                                        obtain ⟨-, ⟨o766, o767⟩, ⟨o768, o769⟩, ⟨o770, o771⟩, -, ⟨o772, o773⟩, -, -, -⟩ := id c759
                                        clear hpost hI1 hS ht hWt
                                        revert hI; generalize H1 = H; generalize locs1 = locs; intro hI
                                        refine lv_goto (tgt := 240) hx hb d_Mo_step_210 (by decide) ?_
                                        exact j240p _ _ _ z477 z638 z644 z744 z748 t_tr754 t_dp755 t_zi756 t_co513 t_sh757 lt f_mf758 hI c759 (by omega) (by omega) (by omega) (by omega) (by omega) (by omega) (by omega) (by omega) (by omega) (by omega) (by omega) (by omega) (by omega) (lv_sub hl [5, 4, 3, 2, 1, 0] rfl)
                                      · cases hv
                                        have hI : sI (dC, dI) vcl cI cJ (gsM a th z470.toInt dp t_zi512 t_co513 sh lt ts mf) A s.heap H1 locs1 := ⟨by rw [← ht]; exact hI1, hS⟩
                                        clear hpost hI1 hS ht hWt
                                        revert hI; generalize H1 = H; generalize locs1 = locs; intro hI
                                        refine lv_goto (tgt := 240) hx hb d_Mo_step_210 (by decide) ?_
                                        exact j240z _ _ _ z477 z638 z644 z744 z748 z470.toInt dp t_zi512 t_co513 sh lt mf hI c760 (by omega) (by omega) (by omega) (by omega) (by omega) (by omega) (by omega) (by omega) (by omega) (by omega) (by omega) (by omega) (by omega) (lv_sub hl [5, 4, 3, 2, 1, 0] rfl)
                                      · cases hv
                                        have hI : sI (dC, dI) vcl cI cJ (gsM a th z470.toInt t_dp761 t_zi762 t_co513 t_sh763 lt ts f_mf764) A s.heap H1 locs1 := ⟨by rw [← ht]; exact hI1, hS⟩
                                        obtain ⟨-, -, ⟨o774, o775⟩, ⟨o776, o777⟩, -, ⟨o778, o779⟩, -, -, -⟩ := id c765
                                        clear hpost hI1 hS ht hWt
                                        revert hI; generalize H1 = H; generalize locs1 = locs; intro hI
                                        refine lv_goto (tgt := 240) hx hb d_Mo_step_210 (by decide) ?_
                                        exact j240z _ _ _ z477 z638 z644 z744 z748 z470.toInt t_dp761 t_zi762 t_co513 t_sh763 lt f_mf764 hI c765 (by omega) (by omega) (by omega) (by omega) (by omega) (by omega) (by omega) (by omega) (by omega) (by omega) (by omega) (by omega) (by omega) (lv_sub hl [5, 4, 3, 2, 1, 0] rfl)
                                  · refine lv_aload_n hx hb d_Mo_step_190 rfl (lv_at hl 5 rfl) ?_
                                    refine lv_iload_n hx hb d_Mo_step_191 rfl (lv_at hl 2 rfl) ?_
                                    refine lv_iload hx hb d_Mo_step_192 (lv_at hl 1 rfl) ?_
                                    refine tz_call (A1 := ga (adM a) H.size) (tz_runV (C := "StoryMachineModel") (As := [.int z644, .int z744]) (rest := []) ⟨hx, hb, hml, hown, hts⟩ (c_Mo_first l hfl dC dI cI cJ a H.size th z470.toInt dp t_zi512 t_co513 sh lt ts mf z644 z744 c672 (by omega) (by omega) (by omega) (by omega) (by omega)) (tx_cb (n := 2) hts rfl rfl ⟨Nat.le_of_ble_eq_true rfl, Nat.le_of_ble_eq_true rfl⟩ (tx_code.of (hts _ mw_1389)) (hts _ mw_12) (by decide +kernel) (hts _ mw_1386)) (hts _ mw_1388) (hts _ ms_Mo_first) ⟨tz_blind, sv_recv (q0 := 0) hts in_Mo hK hI kM_0 rfl, fun U hU hW => ⟨rfl, by rw [hU], by rw [hU]; exact hI.1, va_K.moved hW.alike hK, hst _ _ hI.2 U hU hW⟩⟩ rfl rfl hl.1 rfl (lv_room (Nat.le_of_ble_eq_true rfl)) d_Mo_step_194 ⟨Nat.le_of_ble_eq_true rfl, Nat.le_of_ble_eq_true rfl⟩) hI.2 (fun q _ h => ga_sub hAC hA0 hI.2 q h) (ga_sub hAC hA0 hI.2) (fun v t H1 locs1 ht hWt hpost _ _ hS => ?_) (fun x t H1 locs1 ht hWt hpost _ _ hS => (hpost.2 x rfl).elim)
                                    rcases hpost.1 _ rfl with ⟨t_tr780, t_dp781, t_zi782, t_sh783, f_mf784, hv, c785, c785_0, c785_1, hI1⟩ | ⟨hv, c786, c786_0, c786_1, hI1⟩ | ⟨t_dp787, t_zi788, t_sh789, f_mf790, hv, c791, c791_0, c791_1, hI1⟩
                                    · cases hv
                                      have hI : sI (dC, dI) vcl cI cJ (gsM a th t_tr780 t_dp781 t_zi782 t_co513 t_sh783 lt ts f_mf784) A s.heap H1 locs1 := ⟨by rw [← ht]; exact hI1, hS⟩
                                      obtain ⟨-, ⟨o792, o793⟩, ⟨o794, o795⟩, ⟨o796, o797⟩, -, ⟨o798, o799⟩, -, -, -⟩ := id c785
                                      clear hpost hI1 hS ht hWt
                                      revert hI; generalize H1 = H; generalize locs1 = locs; intro hI
                                      refine lv_goto (tgt := 240) hx hb d_Mo_step_197 (by decide) ?_
                                      exact j240p _ _ _ z477 z638 z644 z744 z748 t_tr780 t_dp781 t_zi782 t_co513 t_sh783 lt f_mf784 hI c785 (by omega) (by omega) (by omega) (by omega) (by omega) (by omega) (by omega) (by omega) (by omega) (by omega) (by omega) (by omega) (by omega) (lv_sub hl [5, 4, 3, 2, 1, 0] rfl)
                                    · cases hv
                                      have hI : sI (dC, dI) vcl cI cJ (gsM a th z470.toInt dp t_zi512 t_co513 sh lt ts mf) A s.heap H1 locs1 := ⟨by rw [← ht]; exact hI1, hS⟩
                                      clear hpost hI1 hS ht hWt
                                      revert hI; generalize H1 = H; generalize locs1 = locs; intro hI
                                      refine lv_goto (tgt := 240) hx hb d_Mo_step_197 (by decide) ?_
                                      exact j240z _ _ _ z477 z638 z644 z744 z748 z470.toInt dp t_zi512 t_co513 sh lt mf hI c786 (by omega) (by omega) (by omega) (by omega) (by omega) (by omega) (by omega) (by omega) (by omega) (by omega) (by omega) (by omega) (by omega) (lv_sub hl [5, 4, 3, 2, 1, 0] rfl)
                                    · cases hv
                                      have hI : sI (dC, dI) vcl cI cJ (gsM a th z470.toInt t_dp787 t_zi788 t_co513 t_sh789 lt ts f_mf790) A s.heap H1 locs1 := ⟨by rw [← ht]; exact hI1, hS⟩
                                      obtain ⟨-, -, ⟨o800, o801⟩, ⟨o802, o803⟩, -, ⟨o804, o805⟩, -, -, -⟩ := id c791
                                      clear hpost hI1 hS ht hWt
                                      revert hI; generalize H1 = H; generalize locs1 = locs; intro hI
                                      refine lv_goto (tgt := 240) hx hb d_Mo_step_197 (by decide) ?_
                                      exact j240z _ _ _ z477 z638 z644 z744 z748 z470.toInt t_dp787 t_zi788 t_co513 t_sh789 lt f_mf790 hI c791 (by omega) (by omega) (by omega) (by omega) (by omega) (by omega) (by omega) (by omega) (by omega) (by omega) (by omega) (by omega) (by omega) (lv_sub hl [5, 4, 3, 2, 1, 0] rfl)
                                · omega
                              · refine lv_aload_n hx hb d_Mo_step_157 rfl (lv_at hl 4 rfl) ?_
                                refine sv_getr (C := "StoryMachineModel") (T := T_Mo) (N := 51) hx hb hts in_Mo hown hK hI 0 kM_0 rfl 39 (by decide) (hts _ mw_1102) rfl d_Mo_step_158 ?_
                                refine sn_iconst hx hb d_Mo_step_161 (by decide) (fun z806 hz806 => ?_)
                                refine sv_ialdr hx hb hK hI 18 kM_18 (by omega) (by omega) d_Mo_step_162 (fun z807 hz807a hz807b => ?_)
                                refine lv_goto (tgt := 167) hx hb d_Mo_step_163 (by decide) ?_
                                refine lv_istore (lv' := [(5, .int z807), (4, .int z744), (3, .int z644), (2, .int z638), (1, .int z477), (0, .ref (a 0))]) hx hb d_Mo_step_167 hl (by decide) rfl (fun ls hl => ?_)
                                refine lv_iload_n hx hb d_Mo_step_169 rfl (lv_at hl 3 rfl) ?_
                                refine sn_if_ne (tgt := 185) hx hb d_Mo_step_170 (by decide) (fun b808 => ?_) (fun b808 => ?_)
                                · refine lv_iload_n hx hb d_Mo_step_185 rfl (lv_at hl 3 rfl) ?_
                                  refine sn_iconst hx hb d_Mo_step_186 (by decide) (fun z809 hz809 => ?_)
                                  refine sn_icmp_ne (tgt := 200) hx hb d_Mo_step_187 (by decide) (fun b810 => ?_) (fun b810 => ?_)
                                  · refine lv_iload_n hx hb d_Mo_step_200 rfl (lv_at hl 3 rfl) ?_
                                    refine sn_iconst hx hb d_Mo_step_201 (by decide) (fun z811 hz811 => ?_)
                                    refine sn_icmp_ne (tgt := 213) hx hb d_Mo_step_202 (by decide) (fun b812 => ?_) (fun b812 => ?_)
                                    · omega
                                    · refine lv_aload_n hx hb d_Mo_step_205 rfl (lv_at hl 5 rfl) ?_
                                      refine lv_iload_n hx hb d_Mo_step_206 rfl (lv_at hl 2 rfl) ?_
                                      refine tz_call (A1 := ga (adM a) H.size) (tz_runV (C := "StoryMachineModel") (As := [.int z644]) (rest := []) ⟨hx, hb, hml, hown, hts⟩ (c_Mo_none l hfl dC dI cI cJ a H.size th z470.toInt dp t_zi512 t_co513 sh lt ts mf z644 c672 (by omega) (by omega) (by omega)) (tx_cb (n := 1) hts rfl rfl ⟨Nat.le_of_ble_eq_true rfl, Nat.le_of_ble_eq_true rfl⟩ (tx_code.of (hts _ mw_1421)) (hts _ mw_12) (by decide +kernel) (hts _ mw_1418)) (hts _ mw_1420) (hts _ ms_Mo_none) ⟨tz_blind, sv_recv (q0 := 0) hts in_Mo hK hI kM_0 rfl, fun U hU hW => ⟨rfl, by rw [hU], by rw [hU]; exact hI.1, va_K.moved hW.alike hK, hst _ _ hI.2 U hU hW⟩⟩ rfl rfl hl.1 rfl (lv_room (Nat.le_of_ble_eq_true rfl)) d_Mo_step_207 ⟨Nat.le_of_ble_eq_true rfl, Nat.le_of_ble_eq_true rfl⟩) hI.2 (fun q _ h => ga_sub hAC hA0 hI.2 q h) (ga_sub hAC hA0 hI.2) (fun v t H1 locs1 ht hWt hpost _ _ hS => ?_) (fun x t H1 locs1 ht hWt hpost _ _ hS => (hpost.2 x rfl).elim)
                                      rcases hpost.1 _ rfl with ⟨t_tr813, t_dp814, t_zi815, t_sh816, f_mf817, hv, c818, c818_0, c818_1, c818_2, hI1⟩ | ⟨hv, c819, c819_0, hI1⟩ | ⟨t_dp820, t_zi821, t_sh822, f_mf823, hv, c824, c824_0, c824_1, c824_2, hI1⟩
                                      · cases hv
                                        have hI : sI (dC, dI) vcl cI cJ (gsM a th t_tr813 t_dp814 t_zi815 t_co513 t_sh816 lt ts f_mf817) A s.heap H1 locs1 := ⟨by rw [← ht]; exact hI1, hS⟩
                                        obtain ⟨-, ⟨o825, o826⟩, ⟨o827, o828⟩, ⟨o829, o830⟩, -, ⟨o831, o832⟩, -, -, -⟩ := id c818
                                        clear hpost hI1 hS ht hWt
                                        revert hI; generalize H1 = H; generalize locs1 = locs; intro hI
                                        refine lv_goto (tgt := 240) hx hb d_Mo_step_210 (by decide) ?_
                                        exact j240p _ _ _ z477 z638 z644 z744 z807 t_tr813 t_dp814 t_zi815 t_co513 t_sh816 lt f_mf817 hI c818 (by omega) (by omega) (by omega) (by omega) (by omega) (by omega) (by omega) (by omega) (by omega) (by omega) (by omega) (by omega) (by omega) (lv_sub hl [5, 4, 3, 2, 1, 0] rfl)
                                      · cases hv
                                        have hI : sI (dC, dI) vcl cI cJ (gsM a th z470.toInt dp t_zi512 t_co513 sh lt ts mf) A s.heap H1 locs1 := ⟨by rw [← ht]; exact hI1, hS⟩
                                        clear hpost hI1 hS ht hWt
                                        revert hI; generalize H1 = H; generalize locs1 = locs; intro hI
                                        refine lv_goto (tgt := 240) hx hb d_Mo_step_210 (by decide) ?_
                                        exact j240z _ _ _ z477 z638 z644 z744 z807 z470.toInt dp t_zi512 t_co513 sh lt mf hI c819 (by omega) (by omega) (by omega) (by omega) (by omega) (by omega) (by omega) (by omega) (by omega) (by omega) (by omega) (by omega) (by omega) (lv_sub hl [5, 4, 3, 2, 1, 0] rfl)
                                      · cases hv
                                        have hI : sI (dC, dI) vcl cI cJ (gsM a th z470.toInt t_dp820 t_zi821 t_co513 t_sh822 lt ts f_mf823) A s.heap H1 locs1 := ⟨by rw [← ht]; exact hI1, hS⟩
                                        obtain ⟨-, -, ⟨o833, o834⟩, ⟨o835, o836⟩, -, ⟨o837, o838⟩, -, -, -⟩ := id c824
                                        clear hpost hI1 hS ht hWt
                                        revert hI; generalize H1 = H; generalize locs1 = locs; intro hI
                                        refine lv_goto (tgt := 240) hx hb d_Mo_step_210 (by decide) ?_
                                        exact j240z _ _ _ z477 z638 z644 z744 z807 z470.toInt t_dp820 t_zi821 t_co513 t_sh822 lt f_mf823 hI c824 (by omega) (by omega) (by omega) (by omega) (by omega) (by omega) (by omega) (by omega) (by omega) (by omega) (by omega) (by omega) (by omega) (lv_sub hl [5, 4, 3, 2, 1, 0] rfl)
                                  · refine lv_aload_n hx hb d_Mo_step_190 rfl (lv_at hl 5 rfl) ?_
                                    refine lv_iload_n hx hb d_Mo_step_191 rfl (lv_at hl 2 rfl) ?_
                                    refine lv_iload hx hb d_Mo_step_192 (lv_at hl 1 rfl) ?_
                                    refine tz_call (A1 := ga (adM a) H.size) (tz_runV (C := "StoryMachineModel") (As := [.int z644, .int z744]) (rest := []) ⟨hx, hb, hml, hown, hts⟩ (c_Mo_first l hfl dC dI cI cJ a H.size th z470.toInt dp t_zi512 t_co513 sh lt ts mf z644 z744 c672 (by omega) (by omega) (by omega) (by omega) (by omega)) (tx_cb (n := 2) hts rfl rfl ⟨Nat.le_of_ble_eq_true rfl, Nat.le_of_ble_eq_true rfl⟩ (tx_code.of (hts _ mw_1389)) (hts _ mw_12) (by decide +kernel) (hts _ mw_1386)) (hts _ mw_1388) (hts _ ms_Mo_first) ⟨tz_blind, sv_recv (q0 := 0) hts in_Mo hK hI kM_0 rfl, fun U hU hW => ⟨rfl, by rw [hU], by rw [hU]; exact hI.1, va_K.moved hW.alike hK, hst _ _ hI.2 U hU hW⟩⟩ rfl rfl hl.1 rfl (lv_room (Nat.le_of_ble_eq_true rfl)) d_Mo_step_194 ⟨Nat.le_of_ble_eq_true rfl, Nat.le_of_ble_eq_true rfl⟩) hI.2 (fun q _ h => ga_sub hAC hA0 hI.2 q h) (ga_sub hAC hA0 hI.2) (fun v t H1 locs1 ht hWt hpost _ _ hS => ?_) (fun x t H1 locs1 ht hWt hpost _ _ hS => (hpost.2 x rfl).elim)
                                    rcases hpost.1 _ rfl with ⟨t_tr839, t_dp840, t_zi841, t_sh842, f_mf843, hv, c844, c844_0, c844_1, hI1⟩ | ⟨hv, c845, c845_0, c845_1, hI1⟩ | ⟨t_dp846, t_zi847, t_sh848, f_mf849, hv, c850, c850_0, c850_1, hI1⟩
                                    · cases hv
                                      have hI : sI (dC, dI) vcl cI cJ (gsM a th t_tr839 t_dp840 t_zi841 t_co513 t_sh842 lt ts f_mf843) A s.heap H1 locs1 := ⟨by rw [← ht]; exact hI1, hS⟩
                                      obtain ⟨-, ⟨o851, o852⟩, ⟨o853, o854⟩, ⟨o855, o856⟩, -, ⟨o857, o858⟩, -, -, -⟩ := id c844
                                      clear hpost hI1 hS ht hWt
                                      revert hI; generalize H1 = H; generalize locs1 = locs; intro hI
                                      refine lv_goto (tgt := 240) hx hb d_Mo_step_197 (by decide) ?_
                                      exact j240p _ _ _ z477 z638 z644 z744 z807 t_tr839 t_dp840 t_zi841 t_co513 t_sh842 lt f_mf843 hI c844 (by omega) (by omega) (by omega) (by omega) (by omega) (by omega) (by omega) (by omega) (by omega) (by omega) (by omega) (by omega) (by omega) (lv_sub hl [5, 4, 3, 2, 1, 0] rfl)
                                    · cases hv
                                      have hI : sI (dC, dI) vcl cI cJ (gsM a th z470.toInt dp t_zi512 t_co513 sh lt ts mf) A s.heap H1 locs1 := ⟨by rw [← ht]; exact hI1, hS⟩
                                      clear hpost hI1 hS ht hWt
                                      revert hI; generalize H1 = H; generalize locs1 = locs; intro hI
                                      refine lv_goto (tgt := 240) hx hb d_Mo_step_197 (by decide) ?_
                                      exact j240z _ _ _ z477 z638 z644 z744 z807 z470.toInt dp t_zi512 t_co513 sh lt mf hI c845 (by omega) (by omega) (by omega) (by omega) (by omega) (by omega) (by omega) (by omega) (by omega) (by omega) (by omega) (by omega) (by omega) (lv_sub hl [5, 4, 3, 2, 1, 0] rfl)
                                    · cases hv
                                      have hI : sI (dC, dI) vcl cI cJ (gsM a th z470.toInt t_dp846 t_zi847 t_co513 t_sh848 lt ts f_mf849) A s.heap H1 locs1 := ⟨by rw [← ht]; exact hI1, hS⟩
                                      obtain ⟨-, -, ⟨o859, o860⟩, ⟨o861, o862⟩, -, ⟨o863, o864⟩, -, -, -⟩ := id c850
                                      clear hpost hI1 hS ht hWt
                                      revert hI; generalize H1 = H; generalize locs1 = locs; intro hI
                                      refine lv_goto (tgt := 240) hx hb d_Mo_step_197 (by decide) ?_
                                      exact j240z _ _ _ z477 z638 z644 z744 z807 z470.toInt t_dp846 t_zi847 t_co513 t_sh848 lt f_mf849 hI c850 (by omega) (by omega) (by omega) (by omega) (by omega) (by omega) (by omega) (by omega) (by omega) (by omega) (by omega) (by omega) (by omega) (lv_sub hl [5, 4, 3, 2, 1, 0] rfl)
                                · omega
                          · omega
                      · omega
                · exact j78z _ _ _ z477 z638 z470.toInt t_zi512 t_co513 hI c639 (by omega) (by omega) (by omega) (by omega) (by omega) (by omega) (by omega) (lv_sub hl [2, 1, 0] rfl)
            · omega
        · omega
    · refine lv_aload_n hx hb d_Mo_step_31 rfl (lv_at hl 1 rfl) ?_
      refine sv_get (C := "StoryMachineModel") (T := T_Mo) (N := 51) hx hb hts in_Mo hown hK hI 0 kM_0 rfl 33 (by decide) (hts _ mw_1096) rfl d_Mo_step_32 (fun z865 hz865a hz865b => ?_)
      refine sn_if_eq (tgt := 42) hx hb d_Mo_step_35 (by decide) (fun b866 => ?_) (fun b866 => ?_)
      · refine sn_iconst hx hb d_Mo_step_42 (by decide) (fun z867 hz867 => ?_)
        refine sn_iconst hx hb d_Mo_step_43 (by decide) (fun z868 hz868 => ?_)
        refine tz_call (A1 := ga (adM a) H.size) (tz_runV (C := "StoryMachineModel") (As := [.int z867, .int z868]) (rest := []) ⟨hx, hb, hml, hown, hts⟩ (c_Mo_good l hfl dC dI cI cJ a H.size th z470.toInt dp zi co sh lt ts mf z867 z868 c478 (by omega) (by omega) (by omega) (by omega)) (tx_cb (n := 2) hts rfl rfl ⟨Nat.le_of_ble_eq_true rfl, Nat.le_of_ble_eq_true rfl⟩ (tx_code.of (hts _ mw_1240)) (hts _ mw_12) (by decide +kernel) (hts _ mw_1237)) (hts _ mw_1239) (hts _ ms_Mo_good) ⟨tz_blind, sv_recv (q0 := 0) hts in_Mo hK hI kM_0 rfl, fun U hU hW => ⟨rfl, by rw [hU], by rw [hU]; exact hI.1, va_K.moved hW.alike hK, hst _ _ hI.2 U hU hW⟩⟩ rfl rfl hl.1 rfl (lv_room (Nat.le_of_ble_eq_true rfl)) d_Mo_step_44 ⟨Nat.le_of_ble_eq_true rfl, Nat.le_of_ble_eq_true rfl⟩) hI.2 (fun q _ h => ga_sub hAC hA0 hI.2 q h) (ga_sub hAC hA0 hI.2) (fun v t H1 locs1 ht hWt hpost _ _ hS => ?_) (fun x t H1 locs1 ht hWt hpost _ _ hS => (hpost.2 x rfl).elim)
        rcases hpost.1 _ rfl with ⟨z869, t_tr870, hv, c871, c871_0, c871_1, c871_2, c871_3, hI1⟩ | ⟨z872, hv, c873, c873_0, c873_1, c873_2, c873_3, hI1⟩
        · cases hv
          have hI : sI (dC, dI) vcl cI cJ (gsM a th t_tr870 dp zi co sh lt ts mf) A s.heap H1 locs1 := ⟨by rw [← ht]; exact hI1, hS⟩
          obtain ⟨-, ⟨o874, o875⟩, -, -, -, -, -, -, -⟩ := id c871
          clear hpost hI1 hS ht hWt
          revert hI; generalize H1 = H; generalize locs1 = locs; intro hI
          refine sn_if_ne (tgt := 51) hx hb d_Mo_step_47 (by decide) (fun b876 => ?_) (fun b876 => ?_)
          · omega
          · subst hZ
            exact tz_ret (W.vret hx hb hr (fun t ht hW => ⟨⟨fun v9 hv9 => by cases hv9; exact (Or.inl ⟨t_tr870, dp, zi, co, sh, lt, mf, rfl, c871, by omega, by omega, by rw [ht]; exact hI.1⟩), fun x9 hx9 => (by cases hx9)⟩, hI.2.F ht⟩) hI.2.2.2 d_Mo_step_50)
        · omega
      · refine sn_iconst hx hb d_Mo_step_38 (by decide) (fun z877 hz877 => ?_)
        refine lv_goto (tgt := 43) hx hb d_Mo_step_39 (by decide) ?_
        refine sn_iconst hx hb d_Mo_step_43 (by decide) (fun z878 hz878 => ?_)
        refine tz_call (A1 := ga (adM a) H.size) (tz_runV (C := "StoryMachineModel") (As := [.int z877, .int z878]) (rest := []) ⟨hx, hb, hml, hown, hts⟩ (c_Mo_good l hfl dC dI cI cJ a H.size th z470.toInt dp zi co sh lt ts mf z877 z878 c478 (by omega) (by omega) (by omega) (by omega)) (tx_cb (n := 2) hts rfl rfl ⟨Nat.le_of_ble_eq_true rfl, Nat.le_of_ble_eq_true rfl⟩ (tx_code.of (hts _ mw_1240)) (hts _ mw_12) (by decide +kernel) (hts _ mw_1237)) (hts _ mw_1239) (hts _ ms_Mo_good) ⟨tz_blind, sv_recv (q0 := 0) hts in_Mo hK hI kM_0 rfl, fun U hU hW => ⟨rfl, by rw [hU], by rw [hU]; exact hI.1, va_K.moved hW.alike hK, hst _ _ hI.2 U hU hW⟩⟩ rfl rfl hl.1 rfl (lv_room (Nat.le_of_ble_eq_true rfl)) d_Mo_step_44 ⟨Nat.le_of_ble_eq_true rfl, Nat.le_of_ble_eq_true rfl⟩) hI.2 (fun q _ h => ga_sub hAC hA0 hI.2 q h) (ga_sub hAC hA0 hI.2) (fun v t H1 locs1 ht hWt hpost _ _ hS => ?_) (fun x t H1 locs1 ht hWt hpost _ _ hS => (hpost.2 x rfl).elim)
        rcases hpost.1 _ rfl with ⟨z879, t_tr880, hv, c881, c881_0, c881_1, c881_2, c881_3, hI1⟩ | ⟨z882, hv, c883, c883_0, c883_1, c883_2, c883_3, hI1⟩
        · cases hv
          have hI : sI (dC, dI) vcl cI cJ (gsM a th t_tr880 dp zi co sh lt ts mf) A s.heap H1 locs1 := ⟨by rw [← ht]; exact hI1, hS⟩
          obtain ⟨-, ⟨o884, o885⟩, -, -, -, -, -, -, -⟩ := id c881
          clear hpost hI1 hS ht hWt
          revert hI; generalize H1 = H; generalize locs1 = locs; intro hI
          refine sn_if_ne (tgt := 51) hx hb d_Mo_step_47 (by decide) (fun b886 => ?_) (fun b886 => ?_)
          · omega
          · subst hZ
            exact tz_ret (W.vret hx hb hr (fun t ht hW => ⟨⟨fun v9 hv9 => by cases hv9; exact (Or.inl ⟨t_tr880, dp, zi, co, sh, lt, mf, rfl, c881, by omega, by omega, by rw [ht]; exact hI.1⟩), fun x9 hx9 => (by cases hx9)⟩, hI.2.F ht⟩) hI.2.2.2 d_Mo_step_50)
        · cases hv
          have hI : sI (dC, dI) vcl cI cJ (gsM a th z470.toInt dp zi co sh lt ts mf) A s.heap H1 locs1 := ⟨by rw [← ht]; exact hI1, hS⟩
          clear hpost hI1 hS ht hWt
          revert hI; generalize H1 = H; generalize locs1 = locs; intro hI
          refine sn_if_ne (tgt := 51) hx hb d_Mo_step_47 (by decide) (fun b887 => ?_) (fun b887 => ?_)
          · refine lv_aload_n hx hb d_Mo_step_51 rfl (lv_at hl 1 rfl) ?_
            refine lv_iload_n hx hb d_Mo_step_52 rfl (lv_at hl 0 rfl) ?_
            refine tz_call (A1 := ga (adM a) H.size) (tz_runV (C := "StoryMachineModel") (As := [.int z477]) (rest := []) ⟨hx, hb, hml, hown, hts⟩ (c_Mo_readNumbers l hfl dC dI cI cJ a H.size th z470.toInt dp zi co sh lt ts mf z477 c883 (by omega) (by omega)) (tx_cb (n := 1) hts rfl rfl ⟨Nat.le_of_ble_eq_true rfl, Nat.le_of_ble_eq_true rfl⟩ (tx_code.of (hts _ mw_1244)) (hts _ mw_12) (by decide +kernel) (hts _ mw_1241)) (hts _ mw_1243) (hts _ ms_Mo_readNumbers) ⟨tz_blind, sv_recv (q0 := 0) hts in_Mo hK hI kM_0 rfl, fun U hU hW => ⟨rfl, by rw [hU], by rw [hU]; exact hI.1, va_K.moved hW.alike hK, hst _ _ hI.2 U hU hW⟩⟩ rfl rfl hl.1 rfl (lv_room (Nat.le_of_ble_eq_true rfl)) d_Mo_step_53 ⟨Nat.le_of_ble_eq_true rfl, Nat.le_of_ble_eq_true rfl⟩) hI.2 (fun q _ h => ga_sub hAC hA0 hI.2 q h) (ga_sub hAC hA0 hI.2) (fun v t H1 locs1 ht hWt hpost _ _ hS => ?_) (fun x t H1 locs1 ht hWt hpost _ _ hS => (hpost.2 x rfl).elim)
            rcases hpost.1 _ rfl with ⟨t_tr888, t_zi889, t_co890, hv, c891, c891_0, hI1⟩ | ⟨t_co892, hv, c893, c893_0, c893_1, c893_2, hI1⟩ | ⟨t_zi894, t_co895, hv, c896, c896_0, hI1⟩
            · cases hv
              have hI : sI (dC, dI) vcl cI cJ (gsM a th t_tr888 dp t_zi889 t_co890 sh lt ts mf) A s.heap H1 locs1 := ⟨by rw [← ht]; exact hI1, hS⟩
              obtain ⟨-, ⟨o897, o898⟩, -, ⟨o899, o900⟩, ⟨o901, o902⟩, -, -, -, -⟩ := id c891
              clear hpost hI1 hS ht hWt
              revert hI; generalize H1 = H; generalize locs1 = locs; intro hI
              refine lv_aload_n hx hb d_Mo_step_56 rfl (lv_at hl 1 rfl) ?_
              refine sv_gete (C := "StoryMachineModel") (T := T_Mo) (N := 51) hx hb hts in_Mo hown hK hI 0 kM_0 rfl 25 (by decide) (hts _ mw_1088) rfl d_Mo_step_57 (fun z903 hz903 => ?_)
              refine sn_if_le (tgt := 64) hx hb d_Mo_step_60 (by decide) (fun b904 => ?_) (fun b904 => ?_)
              · omega
              · subst hZ
                exact tz_ret (W.vret hx hb hr (fun t ht hW => ⟨⟨fun v9 hv9 => by cases hv9; exact (Or.inl ⟨t_tr888, dp, t_zi889, t_co890, sh, lt, mf, rfl, c891, by omega, by omega, by rw [ht]; exact hI.1⟩), fun x9 hx9 => (by cases hx9)⟩, hI.2.F ht⟩) hI.2.2.2 d_Mo_step_63)
            · omega
            · cases hv
              have hI : sI (dC, dI) vcl cI cJ (gsM a th z470.toInt dp t_zi894 t_co895 sh lt ts mf) A s.heap H1 locs1 := ⟨by rw [← ht]; exact hI1, hS⟩
              obtain ⟨-, -, -, ⟨o905, o906⟩, ⟨o907, o908⟩, -, -, -, -⟩ := id c896
              clear hpost hI1 hS ht hWt
              revert hI; generalize H1 = H; generalize locs1 = locs; intro hI
              refine lv_aload_n hx hb d_Mo_step_56 rfl (lv_at hl 1 rfl) ?_
              refine sv_gete (C := "StoryMachineModel") (T := T_Mo) (N := 51) hx hb hts in_Mo hown hK hI 0 kM_0 rfl 25 (by decide) (hts _ mw_1088) rfl d_Mo_step_57 (fun z909 hz909 => ?_)
              refine sn_if_le (tgt := 64) hx hb d_Mo_step_60 (by decide) (fun b910 => ?_) (fun b910 => ?_)
              · refine lv_iload_n hx hb d_Mo_step_64 rfl (lv_at hl 0 rfl) ?_
                refine tz_call (A1 := ga (adM a) H.size) (tz_runS (As := [.int z477]) (rest := []) ⟨hx, hb, hml, hown, hts⟩ (c_Mo_listOf l hfl dC dI cI cJ a H.size th z470.toInt dp t_zi894 t_co895 sh lt ts mf z477 c896) (tx_cb (n := 1) hts rfl rfl ⟨Nat.le_of_ble_eq_true rfl, Nat.le_of_ble_eq_true rfl⟩ (tx_code.of (hts _ mw_1267)) (hts _ mw_12) (by decide +kernel) (hts _ mw_1265)) (hts _ mw_1266) ⟨tz_blind, fun U hU hW => ⟨rfl, by rw [hU], by rw [hU]; exact hI.1, va_K.moved hW.alike hK, hst _ _ hI.2 U hU hW⟩⟩ rfl rfl hl.1 rfl (lv_room (Nat.le_of_ble_eq_true rfl)) d_Mo_step_65 ⟨Nat.le_of_ble_eq_true rfl, Nat.le_of_ble_eq_true rfl⟩) hI.2 (fun q _ h => ga_sub hAC hA0 hI.2 q h) (ga_sub hAC hA0 hI.2) (fun v t H1 locs1 ht hWt hpost _ _ hS => ?_) (fun x t H1 locs1 ht hWt hpost _ _ hS => (hpost.2 x rfl).elim)
                rcases hpost.1 _ rfl with ⟨z911, hv, c912, c912_0, c912_1, hI1⟩
                cases hv
                have hI : sI (dC, dI) vcl cI cJ (gsM a th z470.toInt dp t_zi894 t_co895 sh lt ts mf) A s.heap H1 locs1 := ⟨by rw [← ht]; exact hI1, hS⟩
                clear hpost hI1 hS ht hWt
                revert hI; generalize H1 = H; generalize locs1 = locs; intro hI
                refine lv_istore_n (lv' := [(2, .int z911), (1, .int z477), (0, .ref (a 0))]) hx hb d_Mo_step_68 rfl hl (by decide) rfl (fun ls hl => ?_)
                refine lv_iload_n hx hb d_Mo_step_69 rfl (lv_at hl 0 rfl) ?_
                refine sn_if_eq (tgt := 78) hx hb d_Mo_step_70 (by decide) (fun b913 => ?_) (fun b913 => ?_)
                · exact j78z _ _ _ z477 z911 z470.toInt t_zi894 t_co895 hI c912 (by omega) (by omega) (by omega) (by omega) (by omega) (by omega) (by omega) (lv_sub hl [2, 1, 0] rfl)
                · refine lv_iload_n hx hb d_Mo_step_73 rfl (lv_at hl 0 rfl) ?_
                  refine sn_iconst hx hb d_Mo_step_74 (by decide) (fun z914 hz914 => ?_)
                  refine sn_icmp_ne (tgt := 85) hx hb d_Mo_step_75 (by decide) (fun b915 => ?_) (fun b915 => ?_)
                  · refine lv_iload_n hx hb d_Mo_step_85 rfl (lv_at hl 1 rfl) ?_
                    refine sn_bipush hx hb d_Mo_step_86 (by decide) (fun z916 hz916 => ?_)
                    refine sn_irem (k := 16) hx hb d_Mo_step_88 (by omega) (by omega) (by omega) (fun z917 hz917 => ?_)
                    refine lv_istore_n (lv' := [(3, .int z917), (2, .int z911), (1, .int z477), (0, .ref (a 0))]) hx hb d_Mo_step_89 rfl hl (by decide) rfl (fun ls hl => ?_)
                    refine lv_aload_n hx hb d_Mo_step_90 rfl (lv_at hl 3 rfl) ?_
                    refine lv_aload_n hx hb d_Mo_step_91 rfl (lv_at hl 3 rfl) ?_
                    refine sv_gete (C := "StoryMachineModel") (T := T_Mo) (N := 51) hx hb hts in_Mo hown hK hI 0 kM_0 rfl 38 (by decide) (hts _ mw_1101) rfl d_Mo_step_92 (fun z918 hz918 => ?_)
                    refine lv_iload_n hx hb d_Mo_step_95 rfl (lv_at hl 1 rfl) ?_
                    refine lv_iload_n hx hb d_Mo_step_96 rfl (lv_at hl 0 rfl) ?_
                    refine tz_call (A1 := ga (adM a) H.size) (tz_runS (As := [.int z911, .int z917]) (rest := [.int z918, .ref (a 0)]) ⟨hx, hb, hml, hown, hts⟩ (c_Mo_least l hfl dC dI cI cJ a H.size th z470.toInt dp t_zi894 t_co895 sh lt ts mf z911 z917 c912) (tx_cb (n := 2) hts rfl rfl ⟨Nat.le_of_ble_eq_true rfl, Nat.le_of_ble_eq_true rfl⟩ (tx_code.of (hts _ mw_1270)) (hts _ mw_12) (by decide +kernel) (hts _ mw_1268)) (hts _ mw_1269) ⟨tz_blind, fun U hU hW => ⟨rfl, by rw [hU], by rw [hU]; exact hI.1, va_K.moved hW.alike hK, hst _ _ hI.2 U hU hW⟩⟩ rfl rfl hl.1 rfl (lv_room (Nat.le_of_ble_eq_true rfl)) d_Mo_step_97 ⟨Nat.le_of_ble_eq_true rfl, Nat.le_of_ble_eq_true rfl⟩) hI.2 (fun q _ h => ga_sub hAC hA0 hI.2 q h) (ga_sub hAC hA0 hI.2) (fun v t H1 locs1 ht hWt hpost _ _ hS => ?_) (fun x t H1 locs1 ht hWt hpost _ _ hS => (hpost.2 x rfl).elim)
                    rcases hpost.1 _ rfl with ⟨z919, hv, c920, c920_0, c920_1, hI1⟩
                    cases hv
                    have hI : sI (dC, dI) vcl cI cJ (gsM a th z470.toInt dp t_zi894 t_co895 sh lt ts mf) A s.heap H1 locs1 := ⟨by rw [← ht]; exact hI1, hS⟩
                    clear hpost hI1 hS ht hWt
                    revert hI; generalize H1 = H; generalize locs1 = locs; intro hI
                    refine sn_icmp_lt (tgt := 107) hx hb d_Mo_step_100 (by decide) (fun b921 => ?_) (fun b921 => ?_)
                    · refine sn_iconst hx hb d_Mo_step_107 (by decide) (fun z922 hz922 => ?_)
                      refine sn_iconst hx hb d_Mo_step_108 (by decide) (fun z923 hz923 => ?_)
                      refine tz_call (A1 := ga (adM a) H.size) (tz_runV (C := "StoryMachineModel") (As := [.int z922, .int z923]) (rest := []) ⟨hx, hb, hml, hown, hts⟩ (c_Mo_good l hfl dC dI cI cJ a H.size th z470.toInt dp t_zi894 t_co895 sh lt ts mf z922 z923 c920 (by omega) (by omega) (by omega) (by omega)) (tx_cb (n := 2) hts rfl rfl ⟨Nat.le_of_ble_eq_true rfl, Nat.le_of_ble_eq_true rfl⟩ (tx_code.of (hts _ mw_1240)) (hts _ mw_12) (by decide +kernel) (hts _ mw_1237)) (hts _ mw_1239) (hts _ ms_Mo_good) ⟨tz_blind, sv_recv (q0 := 0) hts in_Mo hK hI kM_0 rfl, fun U hU hW => ⟨rfl, by rw [hU], by rw [hU]; exact hI.1, va_K.moved hW.alike hK, hst _ _ hI.2 U hU hW⟩⟩ rfl rfl hl.1 rfl (lv_room (Nat.le_of_ble_eq_true rfl)) d_Mo_step_109 ⟨Nat.le_of_ble_eq_true rfl, Nat.le_of_ble_eq_true rfl⟩) hI.2 (fun q _ h => ga_sub hAC hA0 hI.2 q h) (ga_sub hAC hA0 hI.2) (fun v t H1 locs1 ht hWt hpost _ _ hS => ?_) (fun x t H1 locs1 ht hWt hpost _ _ hS => (hpost.2 x rfl).elim)
                      rcases hpost.1 _ rfl with ⟨z924, t_tr925, hv, c926, c926_0, c926_1, c926_2, c926_3, hI1⟩ | ⟨z927, hv, c928, c928_0, c928_1, c928_2, c928_3, hI1⟩
                      · cases hv
                        have hI : sI (dC, dI) vcl cI cJ (gsM a th t_tr925 dp t_zi894 t_co895 sh lt ts mf) A s.heap H1 locs1 := ⟨by rw [← ht]; exact hI1, hS⟩
                        obtain ⟨-, ⟨o929, o930⟩, -, -, -, -, -, -, -⟩ := id c926
                        clear hpost hI1 hS ht hWt
                        revert hI; generalize H1 = H; generalize locs1 = locs; intro hI
                        refine sn_if_ne (tgt := 116) hx hb d_Mo_step_112 (by decide) (fun b931 => ?_) (fun b931 => ?_)
                        · omega
                        · subst hZ
                          exact tz_ret (W.vret hx hb hr (fun t ht hW => ⟨⟨fun v9 hv9 => by cases hv9; exact (Or.inl ⟨t_tr925, dp, t_zi894, t_co895, sh, lt, mf, rfl, c926, by omega, by omega, by rw [ht]; exact hI.1⟩), fun x9 hx9 => (by cases hx9)⟩, hI.2.F ht⟩) hI.2.2.2 d_Mo_step_115)
                      · omega
                    · refine sn_iconst hx hb d_Mo_step_103 (by decide) (fun z932 hz932 => ?_)
                      refine lv_goto (tgt := 108) hx hb d_Mo_step_104 (by decide) ?_
                      refine sn_iconst hx hb d_Mo_step_108 (by decide) (fun z933 hz933 => ?_)
                      refine tz_call (A1 := ga (adM a) H.size) (tz_runV (C := "StoryMachineModel") (As := [.int z932, .int z933]) (rest := []) ⟨hx, hb, hml, hown, hts⟩ (c_Mo_good l hfl dC dI cI cJ a H.size th z470.toInt dp t_zi894 t_co895 sh lt ts mf z932 z933 c920 (by omega) (by omega) (by omega) (by omega)) (tx_cb (n := 2) hts rfl rfl ⟨Nat.le_of_ble_eq_true rfl, Nat.le_of_ble_eq_true rfl⟩ (tx_code.of (hts _ mw_1240)) (hts _ mw_12) (by decide +kernel) (hts _ mw_1237)) (hts _ mw_1239) (hts _ ms_Mo_good) ⟨tz_blind, sv_recv (q0 := 0) hts in_Mo hK hI kM_0 rfl, fun U hU hW => ⟨rfl, by rw [hU], by rw [hU]; exact hI.1, va_K.moved hW.alike hK, hst _ _ hI.2 U hU hW⟩⟩ rfl rfl hl.1 rfl (lv_room (Nat.le_of_ble_eq_true rfl)) d_Mo_step_109 ⟨Nat.le_of_ble_eq_true rfl, Nat.le_of_ble_eq_true rfl⟩) hI.2 (fun q _ h => ga_sub hAC hA0 hI.2 q h) (ga_sub hAC hA0 hI.2) (fun v t H1 locs1 ht hWt hpost _ _ hS => ?_) (fun x t H1 locs1 ht hWt hpost _ _ hS => (hpost.2 x rfl).elim)
                      rcases hpost.1 _ rfl with ⟨z934, t_tr935, hv, c936, c936_0, c936_1, c936_2, c936_3, hI1⟩ | ⟨z937, hv, c938, c938_0, c938_1, c938_2, c938_3, hI1⟩
                      · cases hv
                        have hI : sI (dC, dI) vcl cI cJ (gsM a th t_tr935 dp t_zi894 t_co895 sh lt ts mf) A s.heap H1 locs1 := ⟨by rw [← ht]; exact hI1, hS⟩
                        obtain ⟨-, ⟨o939, o940⟩, -, -, -, -, -, -, -⟩ := id c936
                        clear hpost hI1 hS ht hWt
                        revert hI; generalize H1 = H; generalize locs1 = locs; intro hI
                        refine sn_if_ne (tgt := 116) hx hb d_Mo_step_112 (by decide) (fun b941 => ?_) (fun b941 => ?_)
                        · omega
                        · subst hZ
                          exact tz_ret (W.vret hx hb hr (fun t ht hW => ⟨⟨fun v9 hv9 => by cases hv9; exact (Or.inl ⟨t_tr935, dp, t_zi894, t_co895, sh, lt, mf, rfl, c936, by omega, by omega, by rw [ht]; exact hI.1⟩), fun x9 hx9 => (by cases hx9)⟩, hI.2.F ht⟩) hI.2.2.2 d_Mo_step_115)
                      · cases hv
                        have hI : sI (dC, dI) vcl cI cJ (gsM a th z470.toInt dp t_zi894 t_co895 sh lt ts mf) A s.heap H1 locs1 := ⟨by rw [← ht]; exact hI1, hS⟩
                        clear hpost hI1 hS ht hWt
                        revert hI; generalize H1 = H; generalize locs1 = locs; intro hI
                        refine sn_if_ne (tgt := 116) hx hb d_Mo_step_112 (by decide) (fun b942 => ?_) (fun b942 => ?_)
                        · refine lv_aload_n hx hb d_Mo_step_116 rfl (lv_at hl 3 rfl) ?_
                          refine lv_iload_n hx hb d_Mo_step_117 rfl (lv_at hl 1 rfl) ?_
                          refine lv_iload_n hx hb d_Mo_step_118 rfl (lv_at hl 0 rfl) ?_
                          refine tz_call (A1 := ga (adM a) H.size) (tz_runV (C := "StoryMachineModel") (As := [.int z911, .int z917]) (rest := []) ⟨hx, hb, hml, hown, hts⟩ (c_Mo_readRest l hfl dC dI cI cJ a H.size th z470.toInt dp t_zi894 t_co895 sh lt ts mf z911 z917 c938) (tx_cb (n := 2) hts rfl rfl ⟨Nat.le_of_ble_eq_true rfl, Nat.le_of_ble_eq_true rfl⟩ (tx_code.of (hts _ mw_1274)) (hts _ mw_12) (by decide +kernel) (hts _ mw_1271)) (hts _ mw_1273) (hts _ ms_Mo_readRest) ⟨tz_blind, sv_recv (q0 := 0) hts in_Mo hK hI kM_0 rfl, fun U hU hW => ⟨rfl, by rw [hU], by rw [hU]; exact hI.1, va_K.moved hW.alike hK, hst _ _ hI.2 U hU hW⟩⟩ rfl rfl hl.1 rfl (lv_room (Nat.le_of_ble_eq_true rfl)) d_Mo_step_119 ⟨Nat.le_of_ble_eq_true rfl, Nat.le_of_ble_eq_true rfl⟩) hI.2 (fun q _ h => ga_sub hAC hA0 hI.2 q h) (ga_sub hAC hA0 hI.2) (fun v t H1 locs1 ht hWt hpost _ _ hS => ?_) (fun x t H1 locs1 ht hWt hpost _ _ hS => (hpost.2 x rfl).elim)
                          rcases hpost.1 _ rfl with ⟨t_tr943, hv, c944, c944_0, hI1⟩ | ⟨hv, c945, c945_0, hI1⟩
                          · cases hv
                            have hI : sI (dC, dI) vcl cI cJ (gsM a th t_tr943 dp t_zi894 t_co895 sh lt ts mf) A s.heap H1 locs1 := ⟨by rw [← ht]; exact hI1, hS⟩
                            obtain ⟨-, ⟨o946, o947⟩, -, -, -, -, -, -, -⟩ := id c944
                            clear hpost hI1 hS ht hWt
                            revert hI; generalize H1 = H; generalize locs1 = locs; intro hI
                            refine lv_aload_n hx hb d_Mo_step_122 rfl (lv_at hl 3 rfl) ?_
                            refine sv_gete (C := "StoryMachineModel") (T := T_Mo) (N := 51) hx hb hts in_Mo hown hK hI 0 kM_0 rfl 25 (by decide) (hts _ mw_1088) rfl d_Mo_step_123 (fun z948 hz948 => ?_)
                            refine sn_if_le (tgt := 130) hx hb d_Mo_step_126 (by decide) (fun b949 => ?_) (fun b949 => ?_)
                            · omega
                            · subst hZ
                              exact tz_ret (W.vret hx hb hr (fun t ht hW => ⟨⟨fun v9 hv9 => by cases hv9; exact (Or.inl ⟨t_tr943, dp, t_zi894, t_co895, sh, lt, mf, rfl, c944, by omega, by omega, by rw [ht]; exact hI.1⟩), fun x9 hx9 => (by cases hx9)⟩, hI.2.F ht⟩) hI.2.2.2 d_Mo_step_129)
                          · cases hv
                            have hI : sI (dC, dI) vcl cI cJ (gsM a th z470.toInt dp t_zi894 t_co895 sh lt ts mf) A s.heap H1 locs1 := ⟨by rw [← ht]; exact hI1, hS⟩
                            clear hpost hI1 hS ht hWt
                            revert hI; generalize H1 = H; generalize locs1 = locs; intro hI
                            refine lv_aload_n hx hb d_Mo_step_122 rfl (lv_at hl 3 rfl) ?_
                            refine sv_gete (C := "StoryMachineModel") (T := T_Mo) (N := 51) hx hb hts in_Mo hown hK hI 0 kM_0 rfl 25 (by decide) (hts _ mw_1088) rfl d_Mo_step_123 (fun z950 hz950 => ?_)
                            refine sn_if_le (tgt := 130) hx hb d_Mo_step_126 (by decide) (fun b951 => ?_) (fun b951 => ?_)
                            · refine lv_aload_n hx hb d_Mo_step_130 rfl (lv_at hl 3 rfl) ?_
                              refine sv_gete (C := "StoryMachineModel") (T := T_Mo) (N := 51) hx hb hts in_Mo hown hK hI 0 kM_0 rfl 38 (by decide) (hts _ mw_1101) rfl d_Mo_step_131 (fun z952 hz952 => ?_)
                              refine sn_if_le (tgt := 146) hx hb d_Mo_step_134 (by decide) (fun b953 => ?_) (fun b953 => ?_)
                              · refine sn_iconst hx hb d_Mo_step_146 (by decide) (fun z954 hz954 => ?_)
                                refine lv_istore (lv' := [(4, .int z954), (3, .int z917), (2, .int z911), (1, .int z477), (0, .ref (a 0))]) hx hb d_Mo_step_147 hl (by decide) rfl (fun ls hl => ?_)
                                refine lv_aload_n hx hb d_Mo_step_149 rfl (lv_at hl 4 rfl) ?_
                                refine sv_gete (C := "StoryMachineModel") (T := T_Mo) (N := 51) hx hb hts in_Mo hown hK hI 0 kM_0 rfl 38 (by decide) (hts _ mw_1101) rfl d_Mo_step_150 (fun z955 hz955 => ?_)
                                refine sn_iconst hx hb d_Mo_step_153 (by decide) (fun z956 hz956 => ?_)
                                refine sn_icmp_le (tgt := 166) hx hb d_Mo_step_154 (by decide) (fun b957 => ?_) (fun b957 => ?_)
                                · refine sn_iconst hx hb d_Mo_step_166 (by decide) (fun z958 hz958 => ?_)
                                  refine lv_istore (lv' := [(5, .int z958), (4, .int z954), (3, .int z917), (2, .int z911), (1, .int z477), (0, .ref (a 0))]) hx hb d_Mo_step_167 hl (by decide) rfl (fun ls hl => ?_)
                                  refine lv_iload_n hx hb d_Mo_step_169 rfl (lv_at hl 3 rfl) ?_
                                  refine sn_if_ne (tgt := 185) hx hb d_Mo_step_170 (by decide) (fun b959 => ?_) (fun b959 => ?_)
                                  · refine lv_iload_n hx hb d_Mo_step_185 rfl (lv_at hl 3 rfl) ?_
                                    refine sn_iconst hx hb d_Mo_step_186 (by decide) (fun z960 hz960 => ?_)
                                    refine sn_icmp_ne (tgt := 200) hx hb d_Mo_step_187 (by decide) (fun b961 => ?_) (fun b961 => ?_)
                                    · refine lv_iload_n hx hb d_Mo_step_200 rfl (lv_at hl 3 rfl) ?_
                                      refine sn_iconst hx hb d_Mo_step_201 (by decide) (fun z962 hz962 => ?_)
                                      refine sn_icmp_ne (tgt := 213) hx hb d_Mo_step_202 (by decide) (fun b963 => ?_) (fun b963 => ?_)
                                      · omega
                                      · refine lv_aload_n hx hb d_Mo_step_205 rfl (lv_at hl 5 rfl) ?_
                                        refine lv_iload_n hx hb d_Mo_step_206 rfl (lv_at hl 2 rfl) ?_
                                        refine tz_call (A1 := ga (adM a) H.size) (tz_runV (C := "StoryMachineModel") (As := [.int z917]) (rest := []) ⟨hx, hb, hml, hown, hts⟩ (c_Mo_none l hfl dC dI cI cJ a H.size th z470.toInt dp t_zi894 t_co895 sh lt ts mf z917 c945 (by omega) (by omega) (by omega)) (tx_cb (n := 1) hts rfl rfl ⟨Nat.le_of_ble_eq_true rfl, Nat.le_of_ble_eq_true rfl⟩ (tx_code.of (hts _ mw_1421)) (hts _ mw_12) (by decide +kernel) (hts _ mw_1418)) (hts _ mw_1420) (hts _ ms_Mo_none) ⟨tz_blind, sv_recv (q0 := 0) hts in_Mo hK hI kM_0 rfl, fun U hU hW => ⟨rfl, by rw [hU], by rw [hU]; exact hI.1, va_K.moved hW.alike hK, hst _ _ hI.2 U hU hW⟩⟩ rfl rfl hl.1 rfl (lv_room (Nat.le_of_ble_eq_true rfl)) d_Mo_step_207 ⟨Nat.le_of_ble_eq_true rfl, Nat.le_of_ble_eq_true rfl⟩) hI.2 (fun q _ h => ga_sub hAC hA0 hI.2 q h) (ga_sub hAC hA0 hI.2) (fun v t H1 locs1 ht hWt hpost _ _ hS => ?_) (fun x t H1 locs1 ht hWt hpost _ _ hS => (hpost.2 x rfl).elim)
                                        rcases hpost.1 _ rfl with ⟨t_tr964, t_dp965, t_zi966, t_sh967, f_mf968, hv, c969, c969_0, c969_1, c969_2, hI1⟩ | ⟨hv, c970, c970_0, hI1⟩ | ⟨t_dp971, t_zi972, t_sh973, f_mf974, hv, c975, c975_0, c975_1, c975_2, hI1⟩
                                        · cases hv
                                          have hI : sI (dC, dI) vcl cI cJ (gsM a th t_tr964 t_dp965 t_zi966 t_co895 t_sh967 lt ts f_mf968) A s.heap H1 locs1 := ⟨by rw [← ht]; exact hI1, hS⟩
                                          obtain ⟨-, ⟨o976, o977⟩, ⟨o978, o979⟩, ⟨o980, o981⟩, -, ⟨o982, o983⟩, -, -, -⟩ := id c969
                                          clear hpost hI1 hS ht hWt
                                          revert hI; generalize H1 = H; generalize locs1 = locs; intro hI
                                          refine lv_goto (tgt := 240) hx hb d_Mo_step_210 (by decide) ?_
                                          exact j240p _ _ _ z477 z911 z917 z954 z958 t_tr964 t_dp965 t_zi966 t_co895 t_sh967 lt f_mf968 hI c969 (by omega) (by omega) (by omega) (by omega) (by omega) (by omega) (by omega) (by omega) (by omega) (by omega) (by omega) (by omega) (by omega) (lv_sub hl [5, 4, 3, 2, 1, 0] rfl)
                                        · cases hv
                                          have hI : sI (dC, dI) vcl cI cJ (gsM a th z470.toInt dp t_zi894 t_co895 sh lt ts mf) A s.heap H1 locs1 := ⟨by rw [← ht]; exact hI1, hS⟩
                                          clear hpost hI1 hS ht hWt
                                          revert hI; generalize H1 = H; generalize locs1 = locs; intro hI
                                          refine lv_goto (tgt := 240) hx hb d_Mo_step_210 (by decide) ?_
                                          exact j240z _ _ _ z477 z911 z917 z954 z958 z470.toInt dp t_zi894 t_co895 sh lt mf hI c970 (by omega) (by omega) (by omega) (by omega) (by omega) (by omega) (by omega) (by omega) (by omega) (by omega) (by omega) (by omega) (by omega) (lv_sub hl [5, 4, 3, 2, 1, 0] rfl)
                                        · cases hv
                                          have hI : sI (dC, dI) vcl cI cJ (gsM a th z470.toInt t_dp971 t_zi972 t_co895 t_sh973 lt ts f_mf974) A s.heap H1 locs1 := ⟨by rw [← ht]; exact hI1, hS⟩
                                          obtain ⟨-, -, ⟨o984, o985⟩, ⟨o986, o987⟩, -, ⟨o988, o989⟩, -, -, -⟩ := id c975
                                          clear hpost hI1 hS ht hWt
                                          revert hI; generalize H1 = H; generalize locs1 = locs; intro hI
                                          refine lv_goto (tgt := 240) hx hb d_Mo_step_210 (by decide) ?_
                                          exact j240z _ _ _ z477 z911 z917 z954 z958 z470.toInt t_dp971 t_zi972 t_co895 t_sh973 lt f_mf974 hI c975 (by omega) (by omega) (by omega) (by omega) (by omega) (by omega) (by omega) (by omega) (by omega) (by omega) (by omega) (by omega) (by omega) (lv_sub hl [5, 4, 3, 2, 1, 0] rfl)
                                    · refine lv_aload_n hx hb d_Mo_step_190 rfl (lv_at hl 5 rfl) ?_
                                      refine lv_iload_n hx hb d_Mo_step_191 rfl (lv_at hl 2 rfl) ?_
                                      refine lv_iload hx hb d_Mo_step_192 (lv_at hl 1 rfl) ?_
                                      refine tz_call (A1 := ga (adM a) H.size) (tz_runV (C := "StoryMachineModel") (As := [.int z917, .int z954]) (rest := []) ⟨hx, hb, hml, hown, hts⟩ (c_Mo_first l hfl dC dI cI cJ a H.size th z470.toInt dp t_zi894 t_co895 sh lt ts mf z917 z954 c945 (by omega) (by omega) (by omega) (by omega) (by omega)) (tx_cb (n := 2) hts rfl rfl ⟨Nat.le_of_ble_eq_true rfl, Nat.le_of_ble_eq_true rfl⟩ (tx_code.of (hts _ mw_1389)) (hts _ mw_12) (by decide +kernel) (hts _ mw_1386)) (hts _ mw_1388) (hts _ ms_Mo_first) ⟨tz_blind, sv_recv (q0 := 0) hts in_Mo hK hI kM_0 rfl, fun U hU hW => ⟨rfl, by rw [hU], by rw [hU]; exact hI.1, va_K.moved hW.alike hK, hst _ _ hI.2 U hU hW⟩⟩ rfl rfl hl.1 rfl (lv_room (Nat.le_of_ble_eq_true rfl)) d_Mo_step_194 ⟨Nat.le_of_ble_eq_true rfl, Nat.le_of_ble_eq_true rfl⟩) hI.2 (fun q _ h => ga_sub hAC hA0 hI.2 q h) (ga_sub hAC hA0 hI.2) (fun v t H1 locs1 ht hWt hpost _ _ hS => ?_) (fun x t H1 locs1 ht hWt hpost _ _ hS => (hpost.2 x rfl).elim)
                                      rcases hpost.1 _ rfl with ⟨t_tr990, t_dp991, t_zi992, t_sh993, f_mf994, hv, c995, c995_0, c995_1, hI1⟩ | ⟨hv, c996, c996_0, c996_1, hI1⟩ | ⟨t_dp997, t_zi998, t_sh999, f_mf1000, hv, c1001, c1001_0, c1001_1, hI1⟩
                                      · cases hv
                                        have hI : sI (dC, dI) vcl cI cJ (gsM a th t_tr990 t_dp991 t_zi992 t_co895 t_sh993 lt ts f_mf994) A s.heap H1 locs1 := ⟨by rw [← ht]; exact hI1, hS⟩
                                        obtain ⟨-, ⟨o1002, o1003⟩, ⟨o1004, o1005⟩, ⟨o1006, o1007⟩, -, ⟨o1008, o1009⟩, -, -, -⟩ := id c995
                                        clear hpost hI1 hS ht hWt
                                        revert hI; generalize H1 = H; generalize locs1 = locs; intro hI
                                        refine lv_goto (tgt := 240) hx hb d_Mo_step_197 (by decide) ?_
                                        exact j240p _ _ _ z477 z911 z917 z954 z958 t_tr990 t_dp991 t_zi992 t_co895 t_sh993 lt f_mf994 hI c995 (by omega) (by omega) (by omega) (by omega) (by omega) (by omega) (by omega) (by omega) (by omega) (by omega) (by omega) (by omega) (by omega) (lv_sub hl [5, 4, 3, 2, 1, 0] rfl)
                                      · cases hv
                                        have hI : sI (dC, dI) vcl cI cJ (gsM a th z470.toInt dp t_zi894 t_co895 sh lt ts mf) A s.heap H1 locs1 := ⟨by rw [← ht]; exact hI1, hS⟩
                                        clear hpost hI1 hS ht hWt
                                        revert hI; generalize H1 = H; generalize locs1 = locs; intro hI
                                        refine lv_goto (tgt := 240) hx hb d_Mo_step_197 (by decide) ?_
                                        exact j240z _ _ _ z477 z911 z917 z954 z958 z470.toInt dp t_zi894 t_co895 sh lt mf hI c996 (by omega) (by omega) (by omega) (by omega) (by omega) (by omega) (by omega) (by omega) (by omega) (by omega) (by omega) (by omega) (by omega) (lv_sub hl [5, 4, 3, 2, 1, 0] rfl)
                                      · cases hv
                                        have hI : sI (dC, dI) vcl cI cJ (gsM a th z470.toInt t_dp997 t_zi998 t_co895 t_sh999 lt ts f_mf1000) A s.heap H1 locs1 := ⟨by rw [← ht]; exact hI1, hS⟩
                                        obtain ⟨-, -, ⟨o1010, o1011⟩, ⟨o1012, o1013⟩, -, ⟨o1014, o1015⟩, -, -, -⟩ := id c1001
                                        clear hpost hI1 hS ht hWt
                                        revert hI; generalize H1 = H; generalize locs1 = locs; intro hI
                                        refine lv_goto (tgt := 240) hx hb d_Mo_step_197 (by decide) ?_
                                        exact j240z _ _ _ z477 z911 z917 z954 z958 z470.toInt t_dp997 t_zi998 t_co895 t_sh999 lt f_mf1000 hI c1001 (by omega) (by omega) (by omega) (by omega) (by omega) (by omega) (by omega) (by omega) (by omega) (by omega) (by omega) (by omega) (by omega) (lv_sub hl [5, 4, 3, 2, 1, 0] rfl)
                                  · omega
                                · omega
                              · refine lv_aload_n hx hb d_Mo_step_137 rfl (lv_at hl 3 rfl) ?_
                                refine sv_getr (C := "StoryMachineModel") (T := T_Mo) (N := 51) hx hb hts in_Mo hown hK hI 0 kM_0 rfl 39 (by decide) (hts _ mw_1102) rfl d_Mo_step_138 ?_
                                refine sn_iconst hx hb d_Mo_step_141 (by decide) (fun z1016 hz1016 => ?_)
                                refine sv_ialdr hx hb hK hI 18 kM_18 (by omega) (by omega) d_Mo_step_142 (fun z1017 hz1017a hz1017b => ?_)
                                refine lv_goto (tgt := 147) hx hb d_Mo_step_143 (by decide) ?_
                                refine lv_istore (lv' := [(4, .int z1017), (3, .int z917), (2, .int z911), (1, .int z477), (0, .ref (a 0))]) hx hb d_Mo_step_147 hl (by decide) rfl (fun ls hl => ?_)
                                refine lv_aload_n hx hb d_Mo_step_149 rfl (lv_at hl 4 rfl) ?_
                                refine sv_gete (C := "StoryMachineModel") (T := T_Mo) (N := 51) hx hb hts in_Mo hown hK hI 0 kM_0 rfl 38 (by decide) (hts _ mw_1101) rfl d_Mo_step_150 (fun z1018 hz1018 => ?_)
                                refine sn_iconst hx hb d_Mo_step_153 (by decide) (fun z1019 hz1019 => ?_)
                                refine sn_icmp_le (tgt := 166) hx hb d_Mo_step_154 (by decide) (fun b1020 => ?_) (fun b1020 => ?_)
                                · refine sn_iconst hx hb d_Mo_step_166 (by decide) (fun z1021 hz1021 => ?_)
                                  refine lv_istore (lv' := [(5, .int z1021), (4, .int z1017), (3, .int z917), (2, .int z911), (1, .int z477), (0, .ref (a 0))]) hx hb d_Mo_step_167 hl (by decide) rfl (fun ls hl => ?_)
                                  refine lv_iload_n hx hb d_Mo_step_169 rfl (lv_at hl 3 rfl) ?_
                                  refine sn_if_ne (tgt := 185) hx hb d_Mo_step_170 (by decide) (fun b1022 => ?_) (fun b1022 => ?_)
                                  · refine lv_iload_n hx hb d_Mo_step_185 rfl (lv_at hl 3 rfl) ?_
                                    refine sn_iconst hx hb d_Mo_step_186 (by decide) (fun z1023 hz1023 => ?_)
                                    refine sn_icmp_ne (tgt := 200) hx hb d_Mo_step_187 (by decide) (fun b1024 => ?_) (fun b1024 => ?_)
                                    · refine lv_iload_n hx hb d_Mo_step_200 rfl (lv_at hl 3 rfl) ?_
                                      refine sn_iconst hx hb d_Mo_step_201 (by decide) (fun z1025 hz1025 => ?_)
                                      refine sn_icmp_ne (tgt := 213) hx hb d_Mo_step_202 (by decide) (fun b1026 => ?_) (fun b1026 => ?_)
                                      · omega
                                      · refine lv_aload_n hx hb d_Mo_step_205 rfl (lv_at hl 5 rfl) ?_
                                        refine lv_iload_n hx hb d_Mo_step_206 rfl (lv_at hl 2 rfl) ?_
                                        refine tz_call (A1 := ga (adM a) H.size) (tz_runV (C := "StoryMachineModel") (As := [.int z917]) (rest := []) ⟨hx, hb, hml, hown, hts⟩ (c_Mo_none l hfl dC dI cI cJ a H.size th z470.toInt dp t_zi894 t_co895 sh lt ts mf z917 c945 (by omega) (by omega) (by omega)) (tx_cb (n := 1) hts rfl rfl ⟨Nat.le_of_ble_eq_true rfl, Nat.le_of_ble_eq_true rfl⟩ (tx_code.of (hts _ mw_1421)) (hts _ mw_12) (by decide +kernel) (hts _ mw_1418)) (hts _ mw_1420) (hts _ ms_Mo_none) ⟨tz_blind, sv_recv (q0 := 0) hts in_Mo hK hI kM_0 rfl, fun U hU hW => ⟨rfl, by rw [hU], by rw [hU]; exact hI.1, va_K.moved hW.alike hK, hst _ _ hI.2 U hU hW⟩⟩ rfl rfl hl.1 rfl (lv_room (Nat.le_of_ble_eq_true rfl)) d_Mo_step_207 ⟨Nat.le_of_ble_eq_true rfl, Nat.le_of_ble_eq_true rfl⟩) hI.2 (fun q _ h => ga_sub hAC hA0 hI.2 q h) (ga_sub hAC hA0 hI.2) (fun v t H1 locs1 ht hWt hpost _ _ hS => ?_) (fun x t H1 locs1 ht hWt hpost _ _ hS => (hpost.2 x rfl).elim)
                                        rcases hpost.1 _ rfl with ⟨t_tr1027, t_dp1028, t_zi1029, t_sh1030, f_mf1031, hv, c1032, c1032_0, c1032_1, c1032_2, hI1⟩ | ⟨hv, c1033, c1033_0, hI1⟩ | ⟨t_dp1034, t_zi1035, t_sh1036, f_mf1037, hv, c1038, c1038_0, c1038_1, c1038_2, hI1⟩
                                        · cases hv
                                          have hI : sI (dC, dI) vcl cI cJ (gsM a th t_tr1027 t_dp1028 t_zi1029 t_co895 t_sh1030 lt ts f_mf1031) A s.heap H1 locs1 := ⟨by rw [← ht]; exact hI1, hS⟩
                                          obtain ⟨-, ⟨o1039, o1040⟩, ⟨o1041, o1042⟩, ⟨o1043, o1044⟩, -, ⟨o1045, o1046⟩, -, -, -⟩ := id c1032
                                          clear hpost hI1 hS ht hWt
                                          revert hI; generalize H1 = H; generalize locs1 = locs; intro hI
                                          refine lv_goto (tgt := 240) hx hb d_Mo_step_210 (by decide) ?_
                                          exact j240p _ _ _ z477 z911 z917 z1017 z1021 t_tr1027 t_dp1028 t_zi1029 t_co895 t_sh1030 lt f_mf1031 hI c1032 (by omega) (by omega) (by omega) (by omega) (by omega) (by omega) (by omega) (by omega) (by omega) (by omega) (by omega) (by omega) (by omega) (lv_sub hl [5, 4, 3, 2, 1, 0] rfl)
                                        · cases hv
                                          have hI : sI (dC, dI) vcl cI cJ (gsM a th z470.toInt dp t_zi894 t_co895 sh lt ts mf) A s.heap H1 locs1 := ⟨by rw [← ht]; exact hI1, hS⟩
                                          clear hpost hI1 hS ht hWt
                                          revert hI; generalize H1 = H; generalize locs1 = locs; intro hI
                                          refine lv_goto (tgt := 240) hx hb d_Mo_step_210 (by decide) ?_
                                          exact j240z _ _ _ z477 z911 z917 z1017 z1021 z470.toInt dp t_zi894 t_co895 sh lt mf hI c1033 (by omega) (by omega) (by omega) (by omega) (by omega) (by omega) (by omega) (by omega) (by omega) (by omega) (by omega) (by omega) (by omega) (lv_sub hl [5, 4, 3, 2, 1, 0] rfl)
                                        · cases hv
                                          have hI : sI (dC, dI) vcl cI cJ (gsM a th z470.toInt t_dp1034 t_zi1035 t_co895 t_sh1036 lt ts f_mf1037) A s.heap H1 locs1 := ⟨by rw [← ht]; exact hI1, hS⟩
                                          obtain ⟨-, -, ⟨o1047, o1048⟩, ⟨o1049, o1050⟩, -, ⟨o1051, o1052⟩, -, -, -⟩ := id c1038
                                          clear hpost hI1 hS ht hWt
                                          revert hI; generalize H1 = H; generalize locs1 = locs; intro hI
                                          refine lv_goto (tgt := 240) hx hb d_Mo_step_210 (by decide) ?_
                                          exact j240z _ _ _ z477 z911 z917 z1017 z1021 z470.toInt t_dp1034 t_zi1035 t_co895 t_sh1036 lt f_mf1037 hI c1038 (by omega) (by omega) (by omega) (by omega) (by omega) (by omega) (by omega) (by omega) (by omega) (by omega) (by omega) (by omega) (by omega) (lv_sub hl [5, 4, 3, 2, 1, 0] rfl)
                                    · refine lv_aload_n hx hb d_Mo_step_190 rfl (lv_at hl 5 rfl) ?_
                                      refine lv_iload_n hx hb d_Mo_step_191 rfl (lv_at hl 2 rfl) ?_
                                      refine lv_iload hx hb d_Mo_step_192 (lv_at hl 1 rfl) ?_
                                      refine tz_call (A1 := ga (adM a) H.size) (tz_runV (C := "StoryMachineModel") (As := [.int z917, .int z1017]) (rest := []) ⟨hx, hb, hml, hown, hts⟩ (c_Mo_first l hfl dC dI cI cJ a H.size th z470.toInt dp t_zi894 t_co895 sh lt ts mf z917 z1017 c945 (by omega) (by omega) (by omega) (by omega) (by omega)) (tx_cb (n := 2) hts rfl rfl ⟨Nat.le_of_ble_eq_true rfl, Nat.le_of_ble_eq_true rfl⟩ (tx_code.of (hts _ mw_1389)) (hts _ mw_12) (by decide +kernel) (hts _ mw_1386)) (hts _ mw_1388) (hts _ ms_Mo_first) ⟨tz_blind, sv_recv (q0 := 0) hts in_Mo hK hI kM_0 rfl, fun U hU hW => ⟨rfl, by rw [hU], by rw [hU]; exact hI.1, va_K.moved hW.alike hK, hst _ _ hI.2 U hU hW⟩⟩ rfl rfl hl.1 rfl (lv_room (Nat.le_of_ble_eq_true rfl)) d_Mo_step_194 ⟨Nat.le_of_ble_eq_true rfl, Nat.le_of_ble_eq_true rfl⟩) hI.2 (fun q _ h => ga_sub hAC hA0 hI.2 q h) (ga_sub hAC hA0 hI.2) (fun v t H1 locs1 ht hWt hpost _ _ hS => ?_) (fun x t H1 locs1 ht hWt hpost _ _ hS => (hpost.2 x rfl).elim)
                                      rcases hpost.1 _ rfl with ⟨t_tr1053, t_dp1054, t_zi1055, t_sh1056, f_mf1057, hv, c1058, c1058_0, c1058_1, hI1⟩ | ⟨hv, c1059, c1059_0, c1059_1, hI1⟩ | ⟨t_dp1060, t_zi1061, t_sh1062, f_mf1063, hv, c1064, c1064_0, c1064_1, hI1⟩
                                      · cases hv
                                        have hI : sI (dC, dI) vcl cI cJ (gsM a th t_tr1053 t_dp1054 t_zi1055 t_co895 t_sh1056 lt ts f_mf1057) A s.heap H1 locs1 := ⟨by rw [← ht]; exact hI1, hS⟩
                                        obtain ⟨-, ⟨o1065, o1066⟩, ⟨o1067, o1068⟩, ⟨o1069, o1070⟩, -, ⟨o1071, o1072⟩, -, -, -⟩ := id c1058
                                        clear hpost hI1 hS ht hWt
                                        revert hI; generalize H1 = H; generalize locs1 = locs; intro hI
                                        refine lv_goto (tgt := 240) hx hb d_Mo_step_197 (by decide) ?_
                                        exact j240p _ _ _ z477 z911 z917 z1017 z1021 t_tr1053 t_dp1054 t_zi1055 t_co895 t_sh1056 lt f_mf1057 hI c1058 (by omega) (by omega) (by omega) (by omega) (by omega) (by omega) (by omega) (by omega) (by omega) (by omega) (by omega) (by omega) (by omega) (lv_sub hl [5, 4, 3, 2, 1, 0] rfl)
                                      · cases hv
                                        have hI : sI (dC, dI) vcl cI cJ (gsM a th z470.toInt dp t_zi894 t_co895 sh lt ts mf) A s.heap H1 locs1 := ⟨by rw [← ht]; exact hI1, hS⟩
                                        clear hpost hI1 hS ht hWt
                                        revert hI; generalize H1 = H; generalize locs1 = locs; intro hI
                                        refine lv_goto (tgt := 240) hx hb d_Mo_step_197 (by decide) ?_
                                        exact j240z _ _ _ z477 z911 z917 z1017 z1021 z470.toInt dp t_zi894 t_co895 sh lt mf hI c1059 (by omega) (by omega) (by omega) (by omega) (by omega) (by omega) (by omega) (by omega) (by omega) (by omega) (by omega) (by omega) (by omega) (lv_sub hl [5, 4, 3, 2, 1, 0] rfl)
                                      · cases hv
                                        have hI : sI (dC, dI) vcl cI cJ (gsM a th z470.toInt t_dp1060 t_zi1061 t_co895 t_sh1062 lt ts f_mf1063) A s.heap H1 locs1 := ⟨by rw [← ht]; exact hI1, hS⟩
                                        obtain ⟨-, -, ⟨o1073, o1074⟩, ⟨o1075, o1076⟩, -, ⟨o1077, o1078⟩, -, -, -⟩ := id c1064
                                        clear hpost hI1 hS ht hWt
                                        revert hI; generalize H1 = H; generalize locs1 = locs; intro hI
                                        refine lv_goto (tgt := 240) hx hb d_Mo_step_197 (by decide) ?_
                                        exact j240z _ _ _ z477 z911 z917 z1017 z1021 z470.toInt t_dp1060 t_zi1061 t_co895 t_sh1062 lt f_mf1063 hI c1064 (by omega) (by omega) (by omega) (by omega) (by omega) (by omega) (by omega) (by omega) (by omega) (by omega) (by omega) (by omega) (by omega) (lv_sub hl [5, 4, 3, 2, 1, 0] rfl)
                                  · omega
                                · refine lv_aload_n hx hb d_Mo_step_157 rfl (lv_at hl 4 rfl) ?_
                                  refine sv_getr (C := "StoryMachineModel") (T := T_Mo) (N := 51) hx hb hts in_Mo hown hK hI 0 kM_0 rfl 39 (by decide) (hts _ mw_1102) rfl d_Mo_step_158 ?_
                                  refine sn_iconst hx hb d_Mo_step_161 (by decide) (fun z1079 hz1079 => ?_)
                                  refine sv_ialdr hx hb hK hI 18 kM_18 (by omega) (by omega) d_Mo_step_162 (fun z1080 hz1080a hz1080b => ?_)
                                  refine lv_goto (tgt := 167) hx hb d_Mo_step_163 (by decide) ?_
                                  refine lv_istore (lv' := [(5, .int z1080), (4, .int z1017), (3, .int z917), (2, .int z911), (1, .int z477), (0, .ref (a 0))]) hx hb d_Mo_step_167 hl (by decide) rfl (fun ls hl => ?_)
                                  refine lv_iload_n hx hb d_Mo_step_169 rfl (lv_at hl 3 rfl) ?_
                                  refine sn_if_ne (tgt := 185) hx hb d_Mo_step_170 (by decide) (fun b1081 => ?_) (fun b1081 => ?_)
                                  · refine lv_iload_n hx hb d_Mo_step_185 rfl (lv_at hl 3 rfl) ?_
                                    refine sn_iconst hx hb d_Mo_step_186 (by decide) (fun z1082 hz1082 => ?_)
                                    refine sn_icmp_ne (tgt := 200) hx hb d_Mo_step_187 (by decide) (fun b1083 => ?_) (fun b1083 => ?_)
                                    · refine lv_iload_n hx hb d_Mo_step_200 rfl (lv_at hl 3 rfl) ?_
                                      refine sn_iconst hx hb d_Mo_step_201 (by decide) (fun z1084 hz1084 => ?_)
                                      refine sn_icmp_ne (tgt := 213) hx hb d_Mo_step_202 (by decide) (fun b1085 => ?_) (fun b1085 => ?_)
                                      · omega
                                      · refine lv_aload_n hx hb d_Mo_step_205 rfl (lv_at hl 5 rfl) ?_
                                        refine lv_iload_n hx hb d_Mo_step_206 rfl (lv_at hl 2 rfl) ?_
                                        refine tz_call (A1 := ga (adM a) H.size) (tz_runV (C := "StoryMachineModel") (As := [.int z917]) (rest := []) ⟨hx, hb, hml, hown, hts⟩ (c_Mo_none l hfl dC dI cI cJ a H.size th z470.toInt dp t_zi894 t_co895 sh lt ts mf z917 c945 (by omega) (by omega) (by omega)) (tx_cb (n := 1) hts rfl rfl ⟨Nat.le_of_ble_eq_true rfl, Nat.le_of_ble_eq_true rfl⟩ (tx_code.of (hts _ mw_1421)) (hts _ mw_12) (by decide +kernel) (hts _ mw_1418)) (hts _ mw_1420) (hts _ ms_Mo_none) ⟨tz_blind, sv_recv (q0 := 0) hts in_Mo hK hI kM_0 rfl, fun U hU hW => ⟨rfl, by rw [hU], by rw [hU]; exact hI.1, va_K.moved hW.alike hK, hst _ _ hI.2 U hU hW⟩⟩ rfl rfl hl.1 rfl (lv_room (Nat.le_of_ble_eq_true rfl)) d_Mo_step_207 ⟨Nat.le_of_ble_eq_true rfl, Nat.le_of_ble_eq_true rfl⟩) hI.2 (fun q _ h => ga_sub hAC hA0 hI.2 q h) (ga_sub hAC hA0 hI.2) (fun v t H1 locs1 ht hWt hpost _ _ hS => ?_) (fun x t H1 locs1 ht hWt hpost _ _ hS => (hpost.2 x rfl).elim)
                                        rcases hpost.1 _ rfl with ⟨t_tr1086, t_dp1087, t_zi1088, t_sh1089, f_mf1090, hv, c1091, c1091_0, c1091_1, c1091_2, hI1⟩ | ⟨hv, c1092, c1092_0, hI1⟩ | ⟨t_dp1093, t_zi1094, t_sh1095, f_mf1096, hv, c1097, c1097_0, c1097_1, c1097_2, hI1⟩
                                        · cases hv
                                          have hI : sI (dC, dI) vcl cI cJ (gsM a th t_tr1086 t_dp1087 t_zi1088 t_co895 t_sh1089 lt ts f_mf1090) A s.heap H1 locs1 := ⟨by rw [← ht]; exact hI1, hS⟩
                                          obtain ⟨-, ⟨o1098, o1099⟩, ⟨o1100, o1101⟩, ⟨o1102, o1103⟩, -, ⟨o1104, o1105⟩, -, -, -⟩ := id c1091
                                          clear hpost hI1 hS ht hWt
                                          revert hI; generalize H1 = H; generalize locs1 = locs; intro hI
                                          refine lv_goto (tgt := 240) hx hb d_Mo_step_210 (by decide) ?_
                                          exact j240p _ _ _ z477 z911 z917 z1017 z1080 t_tr1086 t_dp1087 t_zi1088 t_co895 t_sh1089 lt f_mf1090 hI c1091 (by omega) (by omega) (by omega) (by omega) (by omega) (by omega) (by omega) (by omega) (by omega) (by omega) (by omega) (by omega) (by omega) (lv_sub hl [5, 4, 3, 2, 1, 0] rfl)
                                        · cases hv
                                          have hI : sI (dC, dI) vcl cI cJ (gsM a th z470.toInt dp t_zi894 t_co895 sh lt ts mf) A s.heap H1 locs1 := ⟨by rw [← ht]; exact hI1, hS⟩
                                          clear hpost hI1 hS ht hWt
                                          revert hI; generalize H1 = H; generalize locs1 = locs; intro hI
                                          refine lv_goto (tgt := 240) hx hb d_Mo_step_210 (by decide) ?_
                                          exact j240z _ _ _ z477 z911 z917 z1017 z1080 z470.toInt dp t_zi894 t_co895 sh lt mf hI c1092 (by omega) (by omega) (by omega) (by omega) (by omega) (by omega) (by omega) (by omega) (by omega) (by omega) (by omega) (by omega) (by omega) (lv_sub hl [5, 4, 3, 2, 1, 0] rfl)
                                        · cases hv
                                          have hI : sI (dC, dI) vcl cI cJ (gsM a th z470.toInt t_dp1093 t_zi1094 t_co895 t_sh1095 lt ts f_mf1096) A s.heap H1 locs1 := ⟨by rw [← ht]; exact hI1, hS⟩
                                          obtain ⟨-, -, ⟨o1106, o1107⟩, ⟨o1108, o1109⟩, -, ⟨o1110, o1111⟩, -, -, -⟩ := id c1097
                                          clear hpost hI1 hS ht hWt
                                          revert hI; generalize H1 = H; generalize locs1 = locs; intro hI
                                          refine lv_goto (tgt := 240) hx hb d_Mo_step_210 (by decide) ?_
                                          exact j240z _ _ _ z477 z911 z917 z1017 z1080 z470.toInt t_dp1093 t_zi1094 t_co895 t_sh1095 lt f_mf1096 hI c1097 (by omega) (by omega) (by omega) (by omega) (by omega) (by omega) (by omega) (by omega) (by omega) (by omega) (by omega) (by omega) (by omega) (lv_sub hl [5, 4, 3, 2, 1, 0] rfl)
                                    · refine lv_aload_n hx hb d_Mo_step_190 rfl (lv_at hl 5 rfl) ?_
                                      refine lv_iload_n hx hb d_Mo_step_191 rfl (lv_at hl 2 rfl) ?_
                                      refine lv_iload hx hb d_Mo_step_192 (lv_at hl 1 rfl) ?_
                                      refine tz_call (A1 := ga (adM a) H.size) (tz_runV (C := "StoryMachineModel") (As := [.int z917, .int z1017]) (rest := []) ⟨hx, hb, hml, hown, hts⟩ (c_Mo_first l hfl dC dI cI cJ a H.size th z470.toInt dp t_zi894 t_co895 sh lt ts mf z917 z1017 c945 (by omega) (by omega) (by omega) (by omega) (by omega)) (tx_cb (n := 2) hts rfl rfl ⟨Nat.le_of_ble_eq_true rfl, Nat.le_of_ble_eq_true rfl⟩ (tx_code.of (hts _ mw_1389)) (hts _ mw_12) (by decide +kernel) (hts _ mw_1386)) (hts _ mw_1388) (hts _ ms_Mo_first) ⟨tz_blind, sv_recv (q0 := 0) hts in_Mo hK hI kM_0 rfl, fun U hU hW => ⟨rfl, by rw [hU], by rw [hU]; exact hI.1, va_K.moved hW.alike hK, hst _ _ hI.2 U hU hW⟩⟩ rfl rfl hl.1 rfl (lv_room (Nat.le_of_ble_eq_true rfl)) d_Mo_step_194 ⟨Nat.le_of_ble_eq_true rfl, Nat.le_of_ble_eq_true rfl⟩) hI.2 (fun q _ h => ga_sub hAC hA0 hI.2 q h) (ga_sub hAC hA0 hI.2) (fun v t H1 locs1 ht hWt hpost _ _ hS => ?_) (fun x t H1 locs1 ht hWt hpost _ _ hS => (hpost.2 x rfl).elim)
                                      rcases hpost.1 _ rfl with ⟨t_tr1112, t_dp1113, t_zi1114, t_sh1115, f_mf1116, hv, c1117, c1117_0, c1117_1, hI1⟩ | ⟨hv, c1118, c1118_0, c1118_1, hI1⟩ | ⟨t_dp1119, t_zi1120, t_sh1121, f_mf1122, hv, c1123, c1123_0, c1123_1, hI1⟩
                                      · cases hv
                                        have hI : sI (dC, dI) vcl cI cJ (gsM a th t_tr1112 t_dp1113 t_zi1114 t_co895 t_sh1115 lt ts f_mf1116) A s.heap H1 locs1 := ⟨by rw [← ht]; exact hI1, hS⟩
                                        obtain ⟨-, ⟨o1124, o1125⟩, ⟨o1126, o1127⟩, ⟨o1128, o1129⟩, -, ⟨o1130, o1131⟩, -, -, -⟩ := id c1117
                                        clear hpost hI1 hS ht hWt
                                        revert hI; generalize H1 = H; generalize locs1 = locs; intro hI
                                        refine lv_goto (tgt := 240) hx hb d_Mo_step_197 (by decide) ?_
                                        exact j240p _ _ _ z477 z911 z917 z1017 z1080 t_tr1112 t_dp1113 t_zi1114 t_co895 t_sh1115 lt f_mf1116 hI c1117 (by omega) (by omega) (by omega) (by omega) (by omega) (by omega) (by omega) (by omega) (by omega) (by omega) (by omega) (by omega) (by omega) (lv_sub hl [5, 4, 3, 2, 1, 0] rfl)
                                      · cases hv
                                        have hI : sI (dC, dI) vcl cI cJ (gsM a th z470.toInt dp t_zi894 t_co895 sh lt ts mf) A s.heap H1 locs1 := ⟨by rw [← ht]; exact hI1, hS⟩
                                        clear hpost hI1 hS ht hWt
                                        revert hI; generalize H1 = H; generalize locs1 = locs; intro hI
                                        refine lv_goto (tgt := 240) hx hb d_Mo_step_197 (by decide) ?_
                                        exact j240z _ _ _ z477 z911 z917 z1017 z1080 z470.toInt dp t_zi894 t_co895 sh lt mf hI c1118 (by omega) (by omega) (by omega) (by omega) (by omega) (by omega) (by omega) (by omega) (by omega) (by omega) (by omega) (by omega) (by omega) (lv_sub hl [5, 4, 3, 2, 1, 0] rfl)
                                      · cases hv
                                        have hI : sI (dC, dI) vcl cI cJ (gsM a th z470.toInt t_dp1119 t_zi1120 t_co895 t_sh1121 lt ts f_mf1122) A s.heap H1 locs1 := ⟨by rw [← ht]; exact hI1, hS⟩
                                        obtain ⟨-, -, ⟨o1132, o1133⟩, ⟨o1134, o1135⟩, -, ⟨o1136, o1137⟩, -, -, -⟩ := id c1123
                                        clear hpost hI1 hS ht hWt
                                        revert hI; generalize H1 = H; generalize locs1 = locs; intro hI
                                        refine lv_goto (tgt := 240) hx hb d_Mo_step_197 (by decide) ?_
                                        exact j240z _ _ _ z477 z911 z917 z1017 z1080 z470.toInt t_dp1119 t_zi1120 t_co895 t_sh1121 lt f_mf1122 hI c1123 (by omega) (by omega) (by omega) (by omega) (by omega) (by omega) (by omega) (by omega) (by omega) (by omega) (by omega) (by omega) (by omega) (lv_sub hl [5, 4, 3, 2, 1, 0] rfl)
                                  · omega
                            · omega
                        · omega
                  · exact j78z _ _ _ z477 z911 z470.toInt t_zi894 t_co895 hI c912 (by omega) (by omega) (by omega) (by omega) (by omega) (by omega) (by omega) (lv_sub hl [2, 1, 0] rfl)
              · omega
          · omega
