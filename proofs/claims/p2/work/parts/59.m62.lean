abbrev q_Mo_step (dC : Nat → ClassId) (dI : Nat → Nat → Nat) (cI cJ : ClassId) (a : Nat → Nat) (th tr dp zi co sh lt ts : Int) (mf : Nat → Int32) : Outcome → State → Prop := fun o t => (∀ v, o = .returned v → ((∃ (tr_ dp_ zi_ co_ sh_ lt_ : Int) (mf_ : Nat → Int32), v = none ∧ okM th tr_ dp_ zi_ co_ sh_ lt_ ts mf_ ∧ (1 ≤ tr_) ∧ (sh_ ≤ sh + 10010) ∧ sh_I (dC, dI) vcl cI cJ (gsM a th tr_ dp_ zi_ co_ sh_ lt_ ts mf_) t.heap) ∨ (∃ (tr_ dp_ zi_ co_ sh_ lt_ : Int) (mf_ : Nat → Int32), v = none ∧ okM th tr_ dp_ zi_ co_ sh_ lt_ ts mf_ ∧ (tr_ ≤ 0) ∧ (sh_ ≤ sh + 10010) ∧ sh_I (dC, dI) vcl cI cJ (gsM a th tr_ dp_ zi_ co_ sh_ lt_ ts mf_) t.heap))) ∧ (∀ x, o = .threw x → (False))
def rm_Mo_step : Room := { frames := 10, cells := 0, slots := 0, locals := 229 }
set_option maxHeartbeats 4000000 in
set_option maxRecDepth 100000 in
theorem c_Mo_step (l : Launch) (hfl : l.flags = pinnedFlags ++ [noTraceFlag]) (dC : Nat → ClassId) (dI : Nat → Nat → Nat) (cI cJ : ClassId) (a : Nat → Nat) (sz : Nat) (th tr dp zi co sh lt ts : Int) (mf : Nat → Int32) (hok : okM th tr dp zi co sh lt ts mf) (hp0 : sh ≤ 1999989990) : tz_Met l ⟨"StoryMachineModel", "step", "()V"⟩ tw_tbl rm_Mo_step (tzP (dC, dI) vcl cI cJ (gsM a th tr dp zi co sh lt ts mf) a (adM a) [.ref (a 0)] sz) (tq_Q (q_Mo_step dC dI cI cJ a th tr dp zi co sh lt ts mf) (ga (adM a) sz)) 0 0 0 0 (ga (adM a) sz) := by
  refine tz_ofW (cc := prog_13_method_71_code) (maxL := 6) (ret := none) (by decide) (tx_isM mw_1228) ?_
  intro p e s m args below meth c s₁ B hml hv
  obtain ⟨rfl, hsz, hI0, hK, hst0⟩ := hv
  have hx := B.exec
  have hb := B.bytes
  have hr := B.returns
  have hts := atoms_spec (ws := tw_tbl) B.pre
  have hown : s.vm.findClass "StoryMachineModel" = some m.cls := findClass_of_methodNamed B.named
  have hlocks := B.notSynchronized
  subst hsz
  have hst := fun (H : Heap) (locs : List Loc) (hS : va_S (ga (adM a) s.heap.size) s.heap H locs) (U : State) (hU : U.heap = H) (hW : s.WarmedH U.vm) => zS_all adM_map hI0 hst0 hS hU hW
  have hAC : ∀ q ∈ adM a, ga (adM a) s.heap.size q := fun q h => Or.inl h
  have hA0 : ∀ q, s.heap.size ≤ q → ga (adM a) s.heap.size q := fun q h => Or.inr h
  have hI : sI (dC, dI) vcl cI cJ (gsM a th tr dp zi co sh lt ts mf) (ga (adM a) s.heap.size) s.heap s.heap [] := ⟨hI0, va_S.rf⟩
  clear hI0 hst0
  have hl := lv_entry ([.ref (a 0)]) (n := 6) (Nat.le_of_ble_eq_true rfl)
  rw [lg_entry_eq]
  generalize (lg_sl ([.ref (a 0)]) ++ List.replicate (6 - (lg_sl ([.ref (a 0)])).length) Slot.unset).toArray = ls at hl ⊢
  have hl : lv_has ls 6 [(0, .ref (a 0))] := hl
  generalize hZ : tz_MQ below (tq_Q (q_Mo_step dC dI cI cJ a th tr dp zi co sh lt ts mf) (ga (adM a) s.heap.size)) ([.ref (a 0)] : List Value).toArray s 0 0 0 0 (ga (adM a) s.heap.size) = Z
  obtain ⟨A, hAe⟩ : ∃ A, A = ga (adM a) s.heap.size := ⟨_, rfl⟩
  rw [← hAe] at hst hAC hA0 hI hZ
  refine sv_start hI (fun H locs hI => ?_)
  obtain ⟨⟨o1, o2⟩, ⟨o3, o4⟩, ⟨o5, o6⟩, ⟨o7, o8⟩, ⟨o9, o10⟩, ⟨o11, o12⟩, ⟨o13, o14⟩, ⟨o15, o16⟩, -⟩ := id hok
  have j240p : ∀ (H : Heap) (locs : List Loc) (ls : Array Slot) (v240p_1 v240p_2 v240p_3 v240p_4 v240p_5 : Int32) (t240p_tr t240p_dp t240p_zi t240p_co t240p_sh t240p_lt : Int) (t240p_mf : Nat → Int32), sI (dC, dI) vcl cI cJ (gsM a th t240p_tr t240p_dp t240p_zi t240p_co t240p_sh t240p_lt ts t240p_mf) A s.heap H locs → okM th t240p_tr t240p_dp t240p_zi t240p_co t240p_sh t240p_lt ts t240p_mf → 0 ≤ v240p_1.toInt → v240p_1.toInt ≤ 255 → 0 ≤ v240p_2.toInt → v240p_2.toInt ≤ 3 → 0 ≤ v240p_3.toInt → v240p_3.toInt ≤ 31 → 0 ≤ v240p_4.toInt → v240p_4.toInt ≤ 65535 → 0 ≤ v240p_5.toInt → v240p_5.toInt ≤ 65535 → 1 ≤ t240p_tr → t240p_tr ≤ 4 → t240p_sh ≤ sh + 10010 → lv_has ls 6 [(0, .ref (a 0)), (1, .int v240p_1), (2, .int v240p_2), (3, .int v240p_3), (4, .int v240p_4), (5, .int v240p_5)] → W p l e (headSpec tw_tbl rm_Mo_step).room s m ([.ref (a 0)] : List Value).toArray below meth c H locs 0 0 Z (F0 m 240 ls []) := by
    intro H locs ls v240p_1 v240p_2 v240p_3 v240p_4 v240p_5 t240p_tr t240p_dp t240p_zi t240p_co t240p_sh t240p_lt t240p_mf hI hok g240_0 g240_1 g240_2 g240_3 g240_4 g240_5 g240_6 g240_7 g240_8 g240_9 g240_10 g240_11 g240_12 hl
    obtain ⟨⟨o17, o18⟩, ⟨o19, o20⟩, ⟨o21, o22⟩, ⟨o23, o24⟩, ⟨o25, o26⟩, ⟨o27, o28⟩, ⟨o29, o30⟩, ⟨o31, o32⟩, -⟩ := id hok
    refine lv_aload_n hx hb d_Mo_step_240 rfl (lv_at hl 0 rfl) ?_
    refine sv_gete (C := "StoryMachineModel") (T := T_Mo) (N := 51) hx hb hts in_Mo hown hK hI 0 kM_0 rfl 25 (by decide) (hts _ mw_1088) rfl d_Mo_step_241 (fun z33 hz33 => ?_)
    refine sn_if_le (tgt := 248) hx hb d_Mo_step_244 (by decide) (fun b34 => ?_) (fun b34 => ?_)
    · omega
    · subst hZ
      exact tz_ret (W.vret hx hb hr (fun t ht hW => ⟨⟨fun v9 hv9 => by cases hv9; exact (Or.inl ⟨t240p_tr, t240p_dp, t240p_zi, t240p_co, t240p_sh, t240p_lt, t240p_mf, rfl, hok, by omega, by omega, by rw [ht]; exact hI.1⟩), fun x9 hx9 => (by cases hx9)⟩, hI.2.F ht⟩) hI.2.2.2 d_Mo_step_247)
  have j240z : ∀ (H : Heap) (locs : List Loc) (ls : Array Slot) (v240z_1 v240z_2 v240z_3 v240z_4 v240z_5 : Int32) (t240z_tr t240z_dp t240z_zi t240z_co t240z_sh t240z_lt : Int) (t240z_mf : Nat → Int32), sI (dC, dI) vcl cI cJ (gsM a th t240z_tr t240z_dp t240z_zi t240z_co t240z_sh t240z_lt ts t240z_mf) A s.heap H locs → okM th t240z_tr t240z_dp t240z_zi t240z_co t240z_sh t240z_lt ts t240z_mf → 0 ≤ v240z_1.toInt → v240z_1.toInt ≤ 255 → 0 ≤ v240z_2.toInt → v240z_2.toInt ≤ 3 → 0 ≤ v240z_3.toInt → v240z_3.toInt ≤ 31 → 0 ≤ v240z_4.toInt → v240z_4.toInt ≤ 65535 → 0 ≤ v240z_5.toInt → v240z_5.toInt ≤ 65535 → 0 ≤ t240z_tr → t240z_tr ≤ 0 → t240z_sh ≤ sh + 10010 → lv_has ls 6 [(0, .ref (a 0)), (1, .int v240z_1), (2, .int v240z_2), (3, .int v240z_3), (4, .int v240z_4), (5, .int v240z_5)] → W p l e (headSpec tw_tbl rm_Mo_step).room s m ([.ref (a 0)] : List Value).toArray below meth c H locs 0 0 Z (F0 m 240 ls []) := by
    intro H locs ls v240z_1 v240z_2 v240z_3 v240z_4 v240z_5 t240z_tr t240z_dp t240z_zi t240z_co t240z_sh t240z_lt t240z_mf hI hok g240_0 g240_1 g240_2 g240_3 g240_4 g240_5 g240_6 g240_7 g240_8 g240_9 g240_10 g240_11 g240_12 hl
    obtain ⟨⟨o35, o36⟩, ⟨o37, o38⟩, ⟨o39, o40⟩, ⟨o41, o42⟩, ⟨o43, o44⟩, ⟨o45, o46⟩, ⟨o47, o48⟩, ⟨o49, o50⟩, -⟩ := id hok
    refine lv_aload_n hx hb d_Mo_step_240 rfl (lv_at hl 0 rfl) ?_
    refine sv_gete (C := "StoryMachineModel") (T := T_Mo) (N := 51) hx hb hts in_Mo hown hK hI 0 kM_0 rfl 25 (by decide) (hts _ mw_1088) rfl d_Mo_step_241 (fun z51 hz51 => ?_)
    refine sn_if_le (tgt := 248) hx hb d_Mo_step_244 (by decide) (fun b52 => ?_) (fun b52 => ?_)
    · refine lv_aload_n hx hb d_Mo_step_248 rfl (lv_at hl 0 rfl) ?_
      refine lv_aload_n hx hb d_Mo_step_249 rfl (lv_at hl 0 rfl) ?_
      refine sv_get (C := "StoryMachineModel") (T := T_Mo) (N := 51) hx hb hts in_Mo hown hK hI 0 kM_0 rfl 28 (by decide) (hts _ mw_1091) rfl d_Mo_step_250 (fun z53 hz53a hz53b => ?_)
      refine sv_put (C := "StoryMachineModel") (T := T_Mo) (N := 51) (ty := .int) hx hb hts in_Mo t_Mo tk_Mo nm_Mo hown hK (sh_in adM_map hAC) hI 0 kM_0 rfl 27 (by decide) (hts _ mw_1090) rfl (by decide +kernel) rfl rfl (Nat.le_of_ble_eq_true rfl) (by omega) (by omega) pM_0_27 d_Mo_step_253 (fun H locs hI => ?_)
      refine lv_aload_n hx hb d_Mo_step_256 rfl (lv_at hl 0 rfl) ?_
      refine lv_dup hx hb d_Mo_step_257 rfl ?_
      refine sv_get (C := "StoryMachineModel") (T := T_Mo) (N := 51) hx hb hts in_Mo hown hK hI 0 kM_0 rfl 29 (by decide) (hts _ mw_1092) rfl d_Mo_step_258 (fun z54 hz54a hz54b => ?_)
      refine sn_iconst hx hb d_Mo_step_261 (by decide) (fun z55 hz55 => ?_)
      refine sn_iaddT hx hb d_Mo_step_262 (fun z56 hz56a hz56b => ?_)
      refine sv_put (C := "StoryMachineModel") (T := T_Mo) (N := 51) (ty := .int) hx hb hts in_Mo t_Mo tk_Mo nm_Mo hown hK (sh_in adM_map hAC) hI 0 kM_0 rfl 29 (by decide) (hts _ mw_1092) rfl (by decide +kernel) rfl rfl (Nat.le_of_ble_eq_true rfl) (by omega) (by omega) pM_0_29 d_Mo_step_263 (fun H locs hI => ?_)
      subst hZ
      exact tz_ret (W.vret hx hb hr (fun t ht hW => ⟨⟨fun v9 hv9 => by cases hv9; exact (Or.inr (⟨t240z_tr, t240z_dp, t240z_zi, t240z_co, t240z_sh, t240z_lt, t240z_mf, rfl, hok, by omega, by omega, by rw [ht]; exact hI.1⟩)), fun x9 hx9 => (by cases hx9)⟩, hI.2.F ht⟩) hI.2.2.2 d_Mo_step_266)
    · omega
  have j169z : ∀ (H : Heap) (locs : List Loc) (ls : Array Slot) (v169z_1 v169z_2 v169z_3 v169z_4 v169z_5 : Int32) (t169z_tr t169z_zi t169z_co : Int), sI (dC, dI) vcl cI cJ (gsM a th t169z_tr dp t169z_zi t169z_co sh lt ts mf) A s.heap H locs → okM th t169z_tr dp t169z_zi t169z_co sh lt ts mf → 0 ≤ v169z_1.toInt → v169z_1.toInt ≤ 255 → 0 ≤ v169z_2.toInt → v169z_2.toInt ≤ 3 → 0 ≤ v169z_3.toInt → v169z_3.toInt ≤ 31 → 0 ≤ v169z_4.toInt → v169z_4.toInt ≤ 65535 → 0 ≤ v169z_5.toInt → v169z_5.toInt ≤ 65535 → 0 ≤ t169z_tr → t169z_tr ≤ 0 → v169z_2.toInt = 0 ∨ v169z_2.toInt = 3 ∨ v169z_3.toInt ≤ 15 → lv_has ls 6 [(0, .ref (a 0)), (1, .int v169z_1), (2, .int v169z_2), (3, .int v169z_3), (4, .int v169z_4), (5, .int v169z_5)] → W p l e (headSpec tw_tbl rm_Mo_step).room s m ([.ref (a 0)] : List Value).toArray below meth c H locs 0 0 Z (F0 m 169 ls []) := by
    intro H locs ls v169z_1 v169z_2 v169z_3 v169z_4 v169z_5 t169z_tr t169z_zi t169z_co hI hok g169_0 g169_1 g169_2 g169_3 g169_4 g169_5 g169_6 g169_7 g169_8 g169_9 g169_10 g169_11 g169_12 hl
    obtain ⟨⟨o57, o58⟩, ⟨o59, o60⟩, ⟨o61, o62⟩, ⟨o63, o64⟩, ⟨o65, o66⟩, ⟨o67, o68⟩, ⟨o69, o70⟩, ⟨o71, o72⟩, -⟩ := id hok
    refine lv_iload_n hx hb d_Mo_step_169 rfl (lv_at hl 2 rfl) ?_
    refine sn_if_ne (tgt := 185) hx hb d_Mo_step_170 (by decide) (fun b73 => ?_) (fun b73 => ?_)
    · refine lv_iload_n hx hb d_Mo_step_185 rfl (lv_at hl 2 rfl) ?_
      refine sn_iconst hx hb d_Mo_step_186 (by decide) (fun z74 hz74 => ?_)
      refine sn_icmp_ne (tgt := 200) hx hb d_Mo_step_187 (by decide) (fun b75 => ?_) (fun b75 => ?_)
      · refine lv_iload_n hx hb d_Mo_step_200 rfl (lv_at hl 2 rfl) ?_
        refine sn_iconst hx hb d_Mo_step_201 (by decide) (fun z76 hz76 => ?_)
        refine sn_icmp_ne (tgt := 213) hx hb d_Mo_step_202 (by decide) (fun b77 => ?_) (fun b77 => ?_)
        · refine lv_aload_n hx hb d_Mo_step_213 rfl (lv_at hl 0 rfl) ?_
          refine lv_iload_n hx hb d_Mo_step_214 rfl (lv_at hl 3 rfl) ?_
          refine lv_iload hx hb d_Mo_step_215 (lv_at hl 4 rfl) ?_
          refine lv_iload hx hb d_Mo_step_217 (lv_at hl 5 rfl) ?_
          refine lv_aload_n hx hb d_Mo_step_219 rfl (lv_at hl 0 rfl) ?_
          refine sv_gete (C := "StoryMachineModel") (T := T_Mo) (N := 51) hx hb hts in_Mo hown hK hI 0 kM_0 rfl 38 (by decide) (hts _ mw_1101) rfl d_Mo_step_220 (fun z78 hz78 => ?_)
          refine sn_iconst hx hb d_Mo_step_223 (by decide) (fun z79 hz79 => ?_)
          refine sn_icmp_le (tgt := 236) hx hb d_Mo_step_224 (by decide) (fun b80 => ?_) (fun b80 => ?_)
          · refine sn_iconst hx hb d_Mo_step_236 (by decide) (fun z81 hz81 => ?_)
            refine tz_call (A1 := ga (adM a) H.size) (tz_runV (C := "StoryMachineModel") (As := [.int v169z_3, .int v169z_4, .int v169z_5, .int z81]) (rest := []) ⟨hx, hb, hml, hown, hts⟩ (c_Mo_manyList l hfl dC dI cI cJ a H.size th t169z_tr dp t169z_zi t169z_co sh lt ts mf v169z_3 v169z_4 v169z_5 z81 hok (by omega) (by omega) (by omega) (by omega) (by omega) (by omega) (by omega) (by omega) (by omega)) (tx_cb (n := 4) hts rfl rfl ⟨Nat.le_of_ble_eq_true rfl, Nat.le_of_ble_eq_true rfl⟩ (tx_code.of (hts _ mw_1440)) (hts _ mw_12) (by decide +kernel) (hts _ mw_1437)) (hts _ mw_1439) (hts _ ms_Mo_manyList) ⟨tz_blind, sv_recv (q0 := 0) hts in_Mo hK hI kM_0 rfl, fun U hU hW => ⟨rfl, by rw [hU], by rw [hU]; exact hI.1, va_K.moved hW.alike hK, hst _ _ hI.2 U hU hW⟩⟩ rfl rfl hl.1 rfl (lv_room (Nat.le_of_ble_eq_true rfl)) d_Mo_step_237 ⟨Nat.le_of_ble_eq_true rfl, Nat.le_of_ble_eq_true rfl⟩) hI.2 (fun q _ h => ga_sub hAC hA0 hI.2 q h) (ga_sub hAC hA0 hI.2) (fun v t H1 locs1 ht hWt hpost _ _ hS => ?_) (fun x t H1 locs1 ht hWt hpost _ _ hS => (hpost.2 x rfl).elim)
            rcases hpost.1 _ rfl with ⟨t_tr82, t_zi83, t_lt84, f_mf85, hv, c86, c86_0, hI1⟩ | ⟨hv, c87, c87_0, c87_1, hI1⟩ | ⟨t_dp88, t_zi89, t_sh90, t_lt91, f_mf92, hv, c93, c93_0, c93_1, hI1⟩
            · cases hv
              have hI : sI (dC, dI) vcl cI cJ (gsM a th t_tr82 dp t_zi83 t169z_co sh t_lt84 ts f_mf85) A s.heap H1 locs1 := ⟨by rw [← ht]; exact hI1, hS⟩
              obtain ⟨-, ⟨o94, o95⟩, -, ⟨o96, o97⟩, -, -, ⟨o98, o99⟩, -, -⟩ := id c86
              clear hpost hI1 hS ht hWt
              revert hI; generalize H1 = H; generalize locs1 = locs; intro hI
              exact j240p _ _ _ v169z_1 v169z_2 v169z_3 v169z_4 v169z_5 t_tr82 dp t_zi83 t169z_co sh t_lt84 f_mf85 hI c86 (by omega) (by omega) (by omega) (by omega) (by omega) (by omega) (by omega) (by omega) (by omega) (by omega) (by omega) (by omega) (by omega) (lv_sub hl [0, 1, 2, 3, 4, 5] rfl)
            · cases hv
              have hI : sI (dC, dI) vcl cI cJ (gsM a th t169z_tr dp t169z_zi t169z_co sh lt ts mf) A s.heap H1 locs1 := ⟨by rw [← ht]; exact hI1, hS⟩
              clear hpost hI1 hS ht hWt
              revert hI; generalize H1 = H; generalize locs1 = locs; intro hI
              exact j240z _ _ _ v169z_1 v169z_2 v169z_3 v169z_4 v169z_5 t169z_tr dp t169z_zi t169z_co sh lt mf hI c87 (by omega) (by omega) (by omega) (by omega) (by omega) (by omega) (by omega) (by omega) (by omega) (by omega) (by omega) (by omega) (by omega) (lv_sub hl [0, 1, 2, 3, 4, 5] rfl)
            · cases hv
              have hI : sI (dC, dI) vcl cI cJ (gsM a th t169z_tr t_dp88 t_zi89 t169z_co t_sh90 t_lt91 ts f_mf92) A s.heap H1 locs1 := ⟨by rw [← ht]; exact hI1, hS⟩
              obtain ⟨-, -, ⟨o100, o101⟩, ⟨o102, o103⟩, -, ⟨o104, o105⟩, ⟨o106, o107⟩, -, -⟩ := id c93
              clear hpost hI1 hS ht hWt
              revert hI; generalize H1 = H; generalize locs1 = locs; intro hI
              exact j240z _ _ _ v169z_1 v169z_2 v169z_3 v169z_4 v169z_5 t169z_tr t_dp88 t_zi89 t169z_co t_sh90 t_lt91 f_mf92 hI c93 (by omega) (by omega) (by omega) (by omega) (by omega) (by omega) (by omega) (by omega) (by omega) (by omega) (by omega) (by omega) (by omega) (lv_sub hl [0, 1, 2, 3, 4, 5] rfl)
          · refine lv_aload_n hx hb d_Mo_step_227 rfl (lv_at hl 0 rfl) ?_
            refine sv_getr (C := "StoryMachineModel") (T := T_Mo) (N := 51) hx hb hts in_Mo hown hK hI 0 kM_0 rfl 39 (by decide) (hts _ mw_1102) rfl d_Mo_step_228 ?_
            refine sn_iconst hx hb d_Mo_step_231 (by decide) (fun z108 hz108 => ?_)
            refine sv_ialdr hx hb hK hI 18 kM_18 (by omega) (by omega) d_Mo_step_232 (fun z109 hz109a hz109b => ?_)
            refine lv_goto (tgt := 237) hx hb d_Mo_step_233 (by decide) ?_
            refine tz_call (A1 := ga (adM a) H.size) (tz_runV (C := "StoryMachineModel") (As := [.int v169z_3, .int v169z_4, .int v169z_5, .int z109]) (rest := []) ⟨hx, hb, hml, hown, hts⟩ (c_Mo_manyList l hfl dC dI cI cJ a H.size th t169z_tr dp t169z_zi t169z_co sh lt ts mf v169z_3 v169z_4 v169z_5 z109 hok (by omega) (by omega) (by omega) (by omega) (by omega) (by omega) (by omega) (by omega) (by omega)) (tx_cb (n := 4) hts rfl rfl ⟨Nat.le_of_ble_eq_true rfl, Nat.le_of_ble_eq_true rfl⟩ (tx_code.of (hts _ mw_1440)) (hts _ mw_12) (by decide +kernel) (hts _ mw_1437)) (hts _ mw_1439) (hts _ ms_Mo_manyList) ⟨tz_blind, sv_recv (q0 := 0) hts in_Mo hK hI kM_0 rfl, fun U hU hW => ⟨rfl, by rw [hU], by rw [hU]; exact hI.1, va_K.moved hW.alike hK, hst _ _ hI.2 U hU hW⟩⟩ rfl rfl hl.1 rfl (lv_room (Nat.le_of_ble_eq_true rfl)) d_Mo_step_237 ⟨Nat.le_of_ble_eq_true rfl, Nat.le_of_ble_eq_true rfl⟩) hI.2 (fun q _ h => ga_sub hAC hA0 hI.2 q h) (ga_sub hAC hA0 hI.2) (fun v t H1 locs1 ht hWt hpost _ _ hS => ?_) (fun x t H1 locs1 ht hWt hpost _ _ hS => (hpost.2 x rfl).elim)
            rcases hpost.1 _ rfl with ⟨t_tr110, t_zi111, t_lt112, f_mf113, hv, c114, c114_0, hI1⟩ | ⟨hv, c115, c115_0, c115_1, hI1⟩ | ⟨t_dp116, t_zi117, t_sh118, t_lt119, f_mf120, hv, c121, c121_0, c121_1, hI1⟩
            · cases hv
              have hI : sI (dC, dI) vcl cI cJ (gsM a th t_tr110 dp t_zi111 t169z_co sh t_lt112 ts f_mf113) A s.heap H1 locs1 := ⟨by rw [← ht]; exact hI1, hS⟩
              obtain ⟨-, ⟨o122, o123⟩, -, ⟨o124, o125⟩, -, -, ⟨o126, o127⟩, -, -⟩ := id c114
              clear hpost hI1 hS ht hWt
              revert hI; generalize H1 = H; generalize locs1 = locs; intro hI
              exact j240p _ _ _ v169z_1 v169z_2 v169z_3 v169z_4 v169z_5 t_tr110 dp t_zi111 t169z_co sh t_lt112 f_mf113 hI c114 (by omega) (by omega) (by omega) (by omega) (by omega) (by omega) (by omega) (by omega) (by omega) (by omega) (by omega) (by omega) (by omega) (lv_sub hl [0, 1, 2, 3, 4, 5] rfl)
            · cases hv
              have hI : sI (dC, dI) vcl cI cJ (gsM a th t169z_tr dp t169z_zi t169z_co sh lt ts mf) A s.heap H1 locs1 := ⟨by rw [← ht]; exact hI1, hS⟩
              clear hpost hI1 hS ht hWt
              revert hI; generalize H1 = H; generalize locs1 = locs; intro hI
              exact j240z _ _ _ v169z_1 v169z_2 v169z_3 v169z_4 v169z_5 t169z_tr dp t169z_zi t169z_co sh lt mf hI c115 (by omega) (by omega) (by omega) (by omega) (by omega) (by omega) (by omega) (by omega) (by omega) (by omega) (by omega) (by omega) (by omega) (lv_sub hl [0, 1, 2, 3, 4, 5] rfl)
            · cases hv
              have hI : sI (dC, dI) vcl cI cJ (gsM a th t169z_tr t_dp116 t_zi117 t169z_co t_sh118 t_lt119 ts f_mf120) A s.heap H1 locs1 := ⟨by rw [← ht]; exact hI1, hS⟩
              obtain ⟨-, -, ⟨o128, o129⟩, ⟨o130, o131⟩, -, ⟨o132, o133⟩, ⟨o134, o135⟩, -, -⟩ := id c121
              clear hpost hI1 hS ht hWt
              revert hI; generalize H1 = H; generalize locs1 = locs; intro hI
              exact j240z _ _ _ v169z_1 v169z_2 v169z_3 v169z_4 v169z_5 t169z_tr t_dp116 t_zi117 t169z_co t_sh118 t_lt119 f_mf120 hI c121 (by omega) (by omega) (by omega) (by omega) (by omega) (by omega) (by omega) (by omega) (by omega) (by omega) (by omega) (by omega) (by omega) (lv_sub hl [0, 1, 2, 3, 4, 5] rfl)
        · refine lv_aload_n hx hb d_Mo_step_205 rfl (lv_at hl 0 rfl) ?_
          refine lv_iload_n hx hb d_Mo_step_206 rfl (lv_at hl 3 rfl) ?_
          refine tz_call (A1 := ga (adM a) H.size) (tz_runV (C := "StoryMachineModel") (As := [.int v169z_3]) (rest := []) ⟨hx, hb, hml, hown, hts⟩ (c_Mo_none l hfl dC dI cI cJ a H.size th t169z_tr dp t169z_zi t169z_co sh lt ts mf v169z_3 hok (by omega) (by omega) (by omega)) (tx_cb (n := 1) hts rfl rfl ⟨Nat.le_of_ble_eq_true rfl, Nat.le_of_ble_eq_true rfl⟩ (tx_code.of (hts _ mw_1421)) (hts _ mw_12) (by decide +kernel) (hts _ mw_1418)) (hts _ mw_1420) (hts _ ms_Mo_none) ⟨tz_blind, sv_recv (q0 := 0) hts in_Mo hK hI kM_0 rfl, fun U hU hW => ⟨rfl, by rw [hU], by rw [hU]; exact hI.1, va_K.moved hW.alike hK, hst _ _ hI.2 U hU hW⟩⟩ rfl rfl hl.1 rfl (lv_room (Nat.le_of_ble_eq_true rfl)) d_Mo_step_207 ⟨Nat.le_of_ble_eq_true rfl, Nat.le_of_ble_eq_true rfl⟩) hI.2 (fun q _ h => ga_sub hAC hA0 hI.2 q h) (ga_sub hAC hA0 hI.2) (fun v t H1 locs1 ht hWt hpost _ _ hS => ?_) (fun x t H1 locs1 ht hWt hpost _ _ hS => (hpost.2 x rfl).elim)
          rcases hpost.1 _ rfl with ⟨t_tr136, t_dp137, t_zi138, t_sh139, f_mf140, hv, c141, c141_0, c141_1, c141_2, hI1⟩ | ⟨hv, c142, c142_0, hI1⟩ | ⟨t_dp143, t_zi144, t_sh145, f_mf146, hv, c147, c147_0, c147_1, c147_2, hI1⟩
          · cases hv
            have hI : sI (dC, dI) vcl cI cJ (gsM a th t_tr136 t_dp137 t_zi138 t169z_co t_sh139 lt ts f_mf140) A s.heap H1 locs1 := ⟨by rw [← ht]; exact hI1, hS⟩
            obtain ⟨-, ⟨o148, o149⟩, ⟨o150, o151⟩, ⟨o152, o153⟩, -, ⟨o154, o155⟩, -, -, -⟩ := id c141
            clear hpost hI1 hS ht hWt
            revert hI; generalize H1 = H; generalize locs1 = locs; intro hI
            refine lv_goto (tgt := 240) hx hb d_Mo_step_210 (by decide) ?_
            exact j240p _ _ _ v169z_1 v169z_2 v169z_3 v169z_4 v169z_5 t_tr136 t_dp137 t_zi138 t169z_co t_sh139 lt f_mf140 hI c141 (by omega) (by omega) (by omega) (by omega) (by omega) (by omega) (by omega) (by omega) (by omega) (by omega) (by omega) (by omega) (by omega) (lv_sub hl [0, 1, 2, 3, 4, 5] rfl)
          · cases hv
            have hI : sI (dC, dI) vcl cI cJ (gsM a th t169z_tr dp t169z_zi t169z_co sh lt ts mf) A s.heap H1 locs1 := ⟨by rw [← ht]; exact hI1, hS⟩
            clear hpost hI1 hS ht hWt
            revert hI; generalize H1 = H; generalize locs1 = locs; intro hI
            refine lv_goto (tgt := 240) hx hb d_Mo_step_210 (by decide) ?_
            exact j240z _ _ _ v169z_1 v169z_2 v169z_3 v169z_4 v169z_5 t169z_tr dp t169z_zi t169z_co sh lt mf hI c142 (by omega) (by omega) (by omega) (by omega) (by omega) (by omega) (by omega) (by omega) (by omega) (by omega) (by omega) (by omega) (by omega) (lv_sub hl [0, 1, 2, 3, 4, 5] rfl)
          · cases hv
            have hI : sI (dC, dI) vcl cI cJ (gsM a th t169z_tr t_dp143 t_zi144 t169z_co t_sh145 lt ts f_mf146) A s.heap H1 locs1 := ⟨by rw [← ht]; exact hI1, hS⟩
            obtain ⟨-, -, ⟨o156, o157⟩, ⟨o158, o159⟩, -, ⟨o160, o161⟩, -, -, -⟩ := id c147
            clear hpost hI1 hS ht hWt
            revert hI; generalize H1 = H; generalize locs1 = locs; intro hI
            refine lv_goto (tgt := 240) hx hb d_Mo_step_210 (by decide) ?_
            exact j240z _ _ _ v169z_1 v169z_2 v169z_3 v169z_4 v169z_5 t169z_tr t_dp143 t_zi144 t169z_co t_sh145 lt f_mf146 hI c147 (by omega) (by omega) (by omega) (by omega) (by omega) (by omega) (by omega) (by omega) (by omega) (by omega) (by omega) (by omega) (by omega) (lv_sub hl [0, 1, 2, 3, 4, 5] rfl)
      · refine lv_aload_n hx hb d_Mo_step_190 rfl (lv_at hl 0 rfl) ?_
        refine lv_iload_n hx hb d_Mo_step_191 rfl (lv_at hl 3 rfl) ?_
        refine lv_iload hx hb d_Mo_step_192 (lv_at hl 4 rfl) ?_
        refine tz_call (A1 := ga (adM a) H.size) (tz_runV (C := "StoryMachineModel") (As := [.int v169z_3, .int v169z_4]) (rest := []) ⟨hx, hb, hml, hown, hts⟩ (c_Mo_first l hfl dC dI cI cJ a H.size th t169z_tr dp t169z_zi t169z_co sh lt ts mf v169z_3 v169z_4 hok (by omega) (by omega) (by omega) (by omega) (by omega)) (tx_cb (n := 2) hts rfl rfl ⟨Nat.le_of_ble_eq_true rfl, Nat.le_of_ble_eq_true rfl⟩ (tx_code.of (hts _ mw_1389)) (hts _ mw_12) (by decide +kernel) (hts _ mw_1386)) (hts _ mw_1388) (hts _ ms_Mo_first) ⟨tz_blind, sv_recv (q0 := 0) hts in_Mo hK hI kM_0 rfl, fun U hU hW => ⟨rfl, by rw [hU], by rw [hU]; exact hI.1, va_K.moved hW.alike hK, hst _ _ hI.2 U hU hW⟩⟩ rfl rfl hl.1 rfl (lv_room (Nat.le_of_ble_eq_true rfl)) d_Mo_step_194 ⟨Nat.le_of_ble_eq_true rfl, Nat.le_of_ble_eq_true rfl⟩) hI.2 (fun q _ h => ga_sub hAC hA0 hI.2 q h) (ga_sub hAC hA0 hI.2) (fun v t H1 locs1 ht hWt hpost _ _ hS => ?_) (fun x t H1 locs1 ht hWt hpost _ _ hS => (hpost.2 x rfl).elim)
        rcases hpost.1 _ rfl with ⟨t_tr162, t_dp163, t_zi164, t_sh165, f_mf166, hv, c167, c167_0, c167_1, hI1⟩ | ⟨hv, c168, c168_0, c168_1, hI1⟩ | ⟨t_dp169, t_zi170, t_sh171, f_mf172, hv, c173, c173_0, c173_1, hI1⟩
        · cases hv
          have hI : sI (dC, dI) vcl cI cJ (gsM a th t_tr162 t_dp163 t_zi164 t169z_co t_sh165 lt ts f_mf166) A s.heap H1 locs1 := ⟨by rw [← ht]; exact hI1, hS⟩
          obtain ⟨-, ⟨o174, o175⟩, ⟨o176, o177⟩, ⟨o178, o179⟩, -, ⟨o180, o181⟩, -, -, -⟩ := id c167
          clear hpost hI1 hS ht hWt
          revert hI; generalize H1 = H; generalize locs1 = locs; intro hI
          refine lv_goto (tgt := 240) hx hb d_Mo_step_197 (by decide) ?_
          exact j240p _ _ _ v169z_1 v169z_2 v169z_3 v169z_4 v169z_5 t_tr162 t_dp163 t_zi164 t169z_co t_sh165 lt f_mf166 hI c167 (by omega) (by omega) (by omega) (by omega) (by omega) (by omega) (by omega) (by omega) (by omega) (by omega) (by omega) (by omega) (by omega) (lv_sub hl [0, 1, 2, 3, 4, 5] rfl)
        · cases hv
          have hI : sI (dC, dI) vcl cI cJ (gsM a th t169z_tr dp t169z_zi t169z_co sh lt ts mf) A s.heap H1 locs1 := ⟨by rw [← ht]; exact hI1, hS⟩
          clear hpost hI1 hS ht hWt
          revert hI; generalize H1 = H; generalize locs1 = locs; intro hI
          refine lv_goto (tgt := 240) hx hb d_Mo_step_197 (by decide) ?_
          exact j240z _ _ _ v169z_1 v169z_2 v169z_3 v169z_4 v169z_5 t169z_tr dp t169z_zi t169z_co sh lt mf hI c168 (by omega) (by omega) (by omega) (by omega) (by omega) (by omega) (by omega) (by omega) (by omega) (by omega) (by omega) (by omega) (by omega) (lv_sub hl [0, 1, 2, 3, 4, 5] rfl)
        · cases hv
          have hI : sI (dC, dI) vcl cI cJ (gsM a th t169z_tr t_dp169 t_zi170 t169z_co t_sh171 lt ts f_mf172) A s.heap H1 locs1 := ⟨by rw [← ht]; exact hI1, hS⟩
          obtain ⟨-, -, ⟨o182, o183⟩, ⟨o184, o185⟩, -, ⟨o186, o187⟩, -, -, -⟩ := id c173
          clear hpost hI1 hS ht hWt
          revert hI; generalize H1 = H; generalize locs1 = locs; intro hI
          refine lv_goto (tgt := 240) hx hb d_Mo_step_197 (by decide) ?_
          exact j240z _ _ _ v169z_1 v169z_2 v169z_3 v169z_4 v169z_5 t169z_tr t_dp169 t_zi170 t169z_co t_sh171 lt f_mf172 hI c173 (by omega) (by omega) (by omega) (by omega) (by omega) (by omega) (by omega) (by omega) (by omega) (by omega) (by omega) (by omega) (by omega) (lv_sub hl [0, 1, 2, 3, 4, 5] rfl)
    · refine lv_aload_n hx hb d_Mo_step_173 rfl (lv_at hl 0 rfl) ?_
      refine lv_iload_n hx hb d_Mo_step_174 rfl (lv_at hl 3 rfl) ?_
      refine lv_iload hx hb d_Mo_step_175 (lv_at hl 4 rfl) ?_
      refine lv_iload hx hb d_Mo_step_177 (lv_at hl 5 rfl) ?_
      refine tz_call (A1 := ga (adM a) H.size) (tz_runV (C := "StoryMachineModel") (As := [.int v169z_3, .int v169z_4, .int v169z_5]) (rest := []) ⟨hx, hb, hml, hown, hts⟩ (c_Mo_second l hfl dC dI cI cJ a H.size th t169z_tr dp t169z_zi t169z_co sh lt ts mf v169z_3 v169z_4 v169z_5 hok (by omega) (by omega) (by omega) (by omega) (by omega) (by omega)) (tx_cb (n := 3) hts rfl rfl ⟨Nat.le_of_ble_eq_true rfl, Nat.le_of_ble_eq_true rfl⟩ (tx_code.of (hts _ mw_1284)) (hts _ mw_12) (by decide +kernel) (hts _ mw_1281)) (hts _ mw_1283) (hts _ ms_Mo_second) ⟨tz_blind, sv_recv (q0 := 0) hts in_Mo hK hI kM_0 rfl, fun U hU hW => ⟨rfl, by rw [hU], by rw [hU]; exact hI.1, va_K.moved hW.alike hK, hst _ _ hI.2 U hU hW⟩⟩ rfl rfl hl.1 rfl (lv_room (Nat.le_of_ble_eq_true rfl)) d_Mo_step_179 ⟨Nat.le_of_ble_eq_true rfl, Nat.le_of_ble_eq_true rfl⟩) hI.2 (fun q _ h => ga_sub hAC hA0 hI.2 q h) (ga_sub hAC hA0 hI.2) (fun v t H1 locs1 ht hWt hpost _ _ hS => ?_) (fun x t H1 locs1 ht hWt hpost _ _ hS => (hpost.2 x rfl).elim)
      rcases hpost.1 _ rfl with ⟨t_tr188, t_dp189, t_zi190, f_mf191, hv, c192, c192_0, hI1⟩ | ⟨t_dp193, t_zi194, f_mf195, hv, c196, c196_0, hI1⟩
      · cases hv
        have hI : sI (dC, dI) vcl cI cJ (gsM a th t_tr188 t_dp189 t_zi190 t169z_co sh lt ts f_mf191) A s.heap H1 locs1 := ⟨by rw [← ht]; exact hI1, hS⟩
        obtain ⟨-, ⟨o197, o198⟩, ⟨o199, o200⟩, ⟨o201, o202⟩, -, -, -, -, -⟩ := id c192
        clear hpost hI1 hS ht hWt
        revert hI; generalize H1 = H; generalize locs1 = locs; intro hI
        refine lv_goto (tgt := 240) hx hb d_Mo_step_182 (by decide) ?_
        exact j240p _ _ _ v169z_1 v169z_2 v169z_3 v169z_4 v169z_5 t_tr188 t_dp189 t_zi190 t169z_co sh lt f_mf191 hI c192 (by omega) (by omega) (by omega) (by omega) (by omega) (by omega) (by omega) (by omega) (by omega) (by omega) (by omega) (by omega) (by omega) (lv_sub hl [0, 1, 2, 3, 4, 5] rfl)
      · cases hv
        have hI : sI (dC, dI) vcl cI cJ (gsM a th t169z_tr t_dp193 t_zi194 t169z_co sh lt ts f_mf195) A s.heap H1 locs1 := ⟨by rw [← ht]; exact hI1, hS⟩
        obtain ⟨-, -, ⟨o203, o204⟩, ⟨o205, o206⟩, -, -, -, -, -⟩ := id c196
        clear hpost hI1 hS ht hWt
        revert hI; generalize H1 = H; generalize locs1 = locs; intro hI
        refine lv_goto (tgt := 240) hx hb d_Mo_step_182 (by decide) ?_
        exact j240z _ _ _ v169z_1 v169z_2 v169z_3 v169z_4 v169z_5 t169z_tr t_dp193 t_zi194 t169z_co sh lt f_mf195 hI c196 (by omega) (by omega) (by omega) (by omega) (by omega) (by omega) (by omega) (by omega) (by omega) (by omega) (by omega) (by omega) (by omega) (lv_sub hl [0, 1, 2, 3, 4, 5] rfl)
  have j149z : ∀ (H : Heap) (locs : List Loc) (ls : Array Slot) (v149z_1 v149z_2 v149z_3 v149z_4 : Int32) (t149z_tr t149z_zi t149z_co : Int), sI (dC, dI) vcl cI cJ (gsM a th t149z_tr dp t149z_zi t149z_co sh lt ts mf) A s.heap H locs → okM th t149z_tr dp t149z_zi t149z_co sh lt ts mf → 0 ≤ v149z_1.toInt → v149z_1.toInt ≤ 255 → 0 ≤ v149z_2.toInt → v149z_2.toInt ≤ 3 → 0 ≤ v149z_3.toInt → v149z_3.toInt ≤ 31 → 0 ≤ v149z_4.toInt → v149z_4.toInt ≤ 65535 → 0 ≤ t149z_tr → t149z_tr ≤ 0 → v149z_2.toInt = 0 ∨ v149z_2.toInt = 3 ∨ v149z_3.toInt ≤ 15 → lv_has ls 6 [(0, .ref (a 0)), (1, .int v149z_1), (2, .int v149z_2), (3, .int v149z_3), (4, .int v149z_4)] → W p l e (headSpec tw_tbl rm_Mo_step).room s m ([.ref (a 0)] : List Value).toArray below meth c H locs 0 0 Z (F0 m 149 ls []) := by
    intro H locs ls v149z_1 v149z_2 v149z_3 v149z_4 t149z_tr t149z_zi t149z_co hI hok g149_0 g149_1 g149_2 g149_3 g149_4 g149_5 g149_6 g149_7 g149_8 g149_9 g149_10 hl
    obtain ⟨⟨o207, o208⟩, ⟨o209, o210⟩, ⟨o211, o212⟩, ⟨o213, o214⟩, ⟨o215, o216⟩, ⟨o217, o218⟩, ⟨o219, o220⟩, ⟨o221, o222⟩, -⟩ := id hok
    refine lv_aload_n hx hb d_Mo_step_149 rfl (lv_at hl 0 rfl) ?_
    refine sv_gete (C := "StoryMachineModel") (T := T_Mo) (N := 51) hx hb hts in_Mo hown hK hI 0 kM_0 rfl 38 (by decide) (hts _ mw_1101) rfl d_Mo_step_150 (fun z223 hz223 => ?_)
    refine sn_iconst hx hb d_Mo_step_153 (by decide) (fun z224 hz224 => ?_)
    refine sn_icmp_le (tgt := 166) hx hb d_Mo_step_154 (by decide) (fun b225 => ?_) (fun b225 => ?_)
    · refine sn_iconst hx hb d_Mo_step_166 (by decide) (fun z226 hz226 => ?_)
      refine lv_istore (lv' := [(5, .int z226), (0, .ref (a 0)), (1, .int v149z_1), (2, .int v149z_2), (3, .int v149z_3), (4, .int v149z_4)]) hx hb d_Mo_step_167 hl (by decide) rfl (fun ls hl => ?_)
      exact j169z _ _ _ v149z_1 v149z_2 v149z_3 v149z_4 z226 t149z_tr t149z_zi t149z_co hI hok (by omega) (by omega) (by omega) (by omega) (by omega) (by omega) (by omega) (by omega) (by omega) (by omega) (by omega) (by omega) (by omega) (lv_sub hl [1, 2, 3, 4, 5, 0] rfl)
    · refine lv_aload_n hx hb d_Mo_step_157 rfl (lv_at hl 0 rfl) ?_
      refine sv_getr (C := "StoryMachineModel") (T := T_Mo) (N := 51) hx hb hts in_Mo hown hK hI 0 kM_0 rfl 39 (by decide) (hts _ mw_1102) rfl d_Mo_step_158 ?_
      refine sn_iconst hx hb d_Mo_step_161 (by decide) (fun z227 hz227 => ?_)
      refine sv_ialdr hx hb hK hI 18 kM_18 (by omega) (by omega) d_Mo_step_162 (fun z228 hz228a hz228b => ?_)
      refine lv_goto (tgt := 167) hx hb d_Mo_step_163 (by decide) ?_
      refine lv_istore (lv' := [(5, .int z228), (0, .ref (a 0)), (1, .int v149z_1), (2, .int v149z_2), (3, .int v149z_3), (4, .int v149z_4)]) hx hb d_Mo_step_167 hl (by decide) rfl (fun ls hl => ?_)
      exact j169z _ _ _ v149z_1 v149z_2 v149z_3 v149z_4 z228 t149z_tr t149z_zi t149z_co hI hok (by omega) (by omega) (by omega) (by omega) (by omega) (by omega) (by omega) (by omega) (by omega) (by omega) (by omega) (by omega) (by omega) (lv_sub hl [1, 2, 3, 4, 5, 0] rfl)
  have j90z : ∀ (H : Heap) (locs : List Loc) (ls : Array Slot) (v90z_1 v90z_2 v90z_3 : Int32) (t90z_tr t90z_zi t90z_co : Int), sI (dC, dI) vcl cI cJ (gsM a th t90z_tr dp t90z_zi t90z_co sh lt ts mf) A s.heap H locs → okM th t90z_tr dp t90z_zi t90z_co sh lt ts mf → 0 ≤ v90z_1.toInt → v90z_1.toInt ≤ 255 → 0 ≤ v90z_2.toInt → v90z_2.toInt ≤ 3 → 0 ≤ v90z_3.toInt → v90z_3.toInt ≤ 31 → 0 ≤ t90z_tr → t90z_tr ≤ 0 → v90z_2.toInt = 0 ∨ v90z_2.toInt = 3 ∨ v90z_3.toInt ≤ 15 → lv_has ls 6 [(0, .ref (a 0)), (1, .int v90z_1), (2, .int v90z_2), (3, .int v90z_3)] → W p l e (headSpec tw_tbl rm_Mo_step).room s m ([.ref (a 0)] : List Value).toArray below meth c H locs 0 0 Z (F0 m 90 ls []) := by
    intro H locs ls v90z_1 v90z_2 v90z_3 t90z_tr t90z_zi t90z_co hI hok g90_0 g90_1 g90_2 g90_3 g90_4 g90_5 g90_6 g90_7 g90_8 hl
    obtain ⟨⟨o229, o230⟩, ⟨o231, o232⟩, ⟨o233, o234⟩, ⟨o235, o236⟩, ⟨o237, o238⟩, ⟨o239, o240⟩, ⟨o241, o242⟩, ⟨o243, o244⟩, -⟩ := id hok
    refine lv_aload_n hx hb d_Mo_step_90 rfl (lv_at hl 0 rfl) ?_
    refine lv_aload_n hx hb d_Mo_step_91 rfl (lv_at hl 0 rfl) ?_
    refine sv_gete (C := "StoryMachineModel") (T := T_Mo) (N := 51) hx hb hts in_Mo hown hK hI 0 kM_0 rfl 38 (by decide) (hts _ mw_1101) rfl d_Mo_step_92 (fun z245 hz245 => ?_)
    refine lv_iload_n hx hb d_Mo_step_95 rfl (lv_at hl 2 rfl) ?_
    refine lv_iload_n hx hb d_Mo_step_96 rfl (lv_at hl 3 rfl) ?_
    refine tz_call (A1 := ga (adM a) H.size) (tz_runS (As := [.int v90z_2, .int v90z_3]) (rest := [.int z245, .ref (a 0)]) ⟨hx, hb, hml, hown, hts⟩ (c_Mo_least l hfl dC dI cI cJ a H.size th t90z_tr dp t90z_zi t90z_co sh lt ts mf v90z_2 v90z_3 hok) (tx_cb (n := 2) hts rfl rfl ⟨Nat.le_of_ble_eq_true rfl, Nat.le_of_ble_eq_true rfl⟩ (tx_code.of (hts _ mw_1270)) (hts _ mw_12) (by decide +kernel) (hts _ mw_1268)) (hts _ mw_1269) ⟨tz_blind, fun U hU hW => ⟨rfl, by rw [hU], by rw [hU]; exact hI.1, va_K.moved hW.alike hK, hst _ _ hI.2 U hU hW⟩⟩ rfl rfl hl.1 rfl (lv_room (Nat.le_of_ble_eq_true rfl)) d_Mo_step_97 ⟨Nat.le_of_ble_eq_true rfl, Nat.le_of_ble_eq_true rfl⟩) hI.2 (fun q _ h => ga_sub hAC hA0 hI.2 q h) (ga_sub hAC hA0 hI.2) (fun v t H1 locs1 ht hWt hpost _ _ hS => ?_) (fun x t H1 locs1 ht hWt hpost _ _ hS => (hpost.2 x rfl).elim)
    rcases hpost.1 _ rfl with ⟨z246, hv, c247, c247_0, c247_1, hI1⟩
    cases hv
    have hI : sI (dC, dI) vcl cI cJ (gsM a th t90z_tr dp t90z_zi t90z_co sh lt ts mf) A s.heap H1 locs1 := ⟨by rw [← ht]; exact hI1, hS⟩
    clear hpost hI1 hS ht hWt
    revert hI; generalize H1 = H; generalize locs1 = locs; intro hI
    refine sn_icmp_lt (tgt := 107) hx hb d_Mo_step_100 (by decide) (fun b248 => ?_) (fun b248 => ?_)
    · refine sn_iconst hx hb d_Mo_step_107 (by decide) (fun z249 hz249 => ?_)
      refine sn_iconst hx hb d_Mo_step_108 (by decide) (fun z250 hz250 => ?_)
      refine tz_call (A1 := ga (adM a) H.size) (tz_runV (C := "StoryMachineModel") (As := [.int z249, .int z250]) (rest := []) ⟨hx, hb, hml, hown, hts⟩ (c_Mo_good l hfl dC dI cI cJ a H.size th t90z_tr dp t90z_zi t90z_co sh lt ts mf z249 z250 c247 (by omega) (by omega) (by omega) (by omega)) (tx_cb (n := 2) hts rfl rfl ⟨Nat.le_of_ble_eq_true rfl, Nat.le_of_ble_eq_true rfl⟩ (tx_code.of (hts _ mw_1240)) (hts _ mw_12) (by decide +kernel) (hts _ mw_1237)) (hts _ mw_1239) (hts _ ms_Mo_good) ⟨tz_blind, sv_recv (q0 := 0) hts in_Mo hK hI kM_0 rfl, fun U hU hW => ⟨rfl, by rw [hU], by rw [hU]; exact hI.1, va_K.moved hW.alike hK, hst _ _ hI.2 U hU hW⟩⟩ rfl rfl hl.1 rfl (lv_room (Nat.le_of_ble_eq_true rfl)) d_Mo_step_109 ⟨Nat.le_of_ble_eq_true rfl, Nat.le_of_ble_eq_true rfl⟩) hI.2 (fun q _ h => ga_sub hAC hA0 hI.2 q h) (ga_sub hAC hA0 hI.2) (fun v t H1 locs1 ht hWt hpost _ _ hS => ?_) (fun x t H1 locs1 ht hWt hpost _ _ hS => (hpost.2 x rfl).elim)
      rcases hpost.1 _ rfl with ⟨z251, t_tr252, hv, c253, c253_0, c253_1, c253_2, c253_3, hI1⟩ | ⟨z254, hv, c255, c255_0, c255_1, c255_2, c255_3, hI1⟩
      · cases hv
        have hI : sI (dC, dI) vcl cI cJ (gsM a th t_tr252 dp t90z_zi t90z_co sh lt ts mf) A s.heap H1 locs1 := ⟨by rw [← ht]; exact hI1, hS⟩
        obtain ⟨-, ⟨o256, o257⟩, -, -, -, -, -, -, -⟩ := id c253
        clear hpost hI1 hS ht hWt
        revert hI; generalize H1 = H; generalize locs1 = locs; intro hI
        refine sn_if_ne (tgt := 116) hx hb d_Mo_step_112 (by decide) (fun b258 => ?_) (fun b258 => ?_)
        · omega
        · subst hZ
          exact tz_ret (W.vret hx hb hr (fun t ht hW => ⟨⟨fun v9 hv9 => by cases hv9; exact (Or.inl ⟨t_tr252, dp, t90z_zi, t90z_co, sh, lt, mf, rfl, c253, by omega, by omega, by rw [ht]; exact hI.1⟩), fun x9 hx9 => (by cases hx9)⟩, hI.2.F ht⟩) hI.2.2.2 d_Mo_step_115)
      · omega
    · refine sn_iconst hx hb d_Mo_step_103 (by decide) (fun z259 hz259 => ?_)
      refine lv_goto (tgt := 108) hx hb d_Mo_step_104 (by decide) ?_
      refine sn_iconst hx hb d_Mo_step_108 (by decide) (fun z260 hz260 => ?_)
      refine tz_call (A1 := ga (adM a) H.size) (tz_runV (C := "StoryMachineModel") (As := [.int z259, .int z260]) (rest := []) ⟨hx, hb, hml, hown, hts⟩ (c_Mo_good l hfl dC dI cI cJ a H.size th t90z_tr dp t90z_zi t90z_co sh lt ts mf z259 z260 c247 (by omega) (by omega) (by omega) (by omega)) (tx_cb (n := 2) hts rfl rfl ⟨Nat.le_of_ble_eq_true rfl, Nat.le_of_ble_eq_true rfl⟩ (tx_code.of (hts _ mw_1240)) (hts _ mw_12) (by decide +kernel) (hts _ mw_1237)) (hts _ mw_1239) (hts _ ms_Mo_good) ⟨tz_blind, sv_recv (q0 := 0) hts in_Mo hK hI kM_0 rfl, fun U hU hW => ⟨rfl, by rw [hU], by rw [hU]; exact hI.1, va_K.moved hW.alike hK, hst _ _ hI.2 U hU hW⟩⟩ rfl rfl hl.1 rfl (lv_room (Nat.le_of_ble_eq_true rfl)) d_Mo_step_109 ⟨Nat.le_of_ble_eq_true rfl, Nat.le_of_ble_eq_true rfl⟩) hI.2 (fun q _ h => ga_sub hAC hA0 hI.2 q h) (ga_sub hAC hA0 hI.2) (fun v t H1 locs1 ht hWt hpost _ _ hS => ?_) (fun x t H1 locs1 ht hWt hpost _ _ hS => (hpost.2 x rfl).elim)
      rcases hpost.1 _ rfl with ⟨z261, t_tr262, hv, c263, c263_0, c263_1, c263_2, c263_3, hI1⟩ | ⟨z264, hv, c265, c265_0, c265_1, c265_2, c265_3, hI1⟩
      · cases hv
        have hI : sI (dC, dI) vcl cI cJ (gsM a th t_tr262 dp t90z_zi t90z_co sh lt ts mf) A s.heap H1 locs1 := ⟨by rw [← ht]; exact hI1, hS⟩
        obtain ⟨-, ⟨o266, o267⟩, -, -, -, -, -, -, -⟩ := id c263
        clear hpost hI1 hS ht hWt
        revert hI; generalize H1 = H; generalize locs1 = locs; intro hI
        refine sn_if_ne (tgt := 116) hx hb d_Mo_step_112 (by decide) (fun b268 => ?_) (fun b268 => ?_)
        · omega
        · subst hZ
          exact tz_ret (W.vret hx hb hr (fun t ht hW => ⟨⟨fun v9 hv9 => by cases hv9; exact (Or.inl ⟨t_tr262, dp, t90z_zi, t90z_co, sh, lt, mf, rfl, c263, by omega, by omega, by rw [ht]; exact hI.1⟩), fun x9 hx9 => (by cases hx9)⟩, hI.2.F ht⟩) hI.2.2.2 d_Mo_step_115)
      · cases hv
        have hI : sI (dC, dI) vcl cI cJ (gsM a th t90z_tr dp t90z_zi t90z_co sh lt ts mf) A s.heap H1 locs1 := ⟨by rw [← ht]; exact hI1, hS⟩
        clear hpost hI1 hS ht hWt
        revert hI; generalize H1 = H; generalize locs1 = locs; intro hI
        refine sn_if_ne (tgt := 116) hx hb d_Mo_step_112 (by decide) (fun b269 => ?_) (fun b269 => ?_)
        · refine lv_aload_n hx hb d_Mo_step_116 rfl (lv_at hl 0 rfl) ?_
          refine lv_iload_n hx hb d_Mo_step_117 rfl (lv_at hl 2 rfl) ?_
          refine lv_iload_n hx hb d_Mo_step_118 rfl (lv_at hl 3 rfl) ?_
          refine tz_call (A1 := ga (adM a) H.size) (tz_runV (C := "StoryMachineModel") (As := [.int v90z_2, .int v90z_3]) (rest := []) ⟨hx, hb, hml, hown, hts⟩ (c_Mo_readRest l hfl dC dI cI cJ a H.size th t90z_tr dp t90z_zi t90z_co sh lt ts mf v90z_2 v90z_3 c265) (tx_cb (n := 2) hts rfl rfl ⟨Nat.le_of_ble_eq_true rfl, Nat.le_of_ble_eq_true rfl⟩ (tx_code.of (hts _ mw_1274)) (hts _ mw_12) (by decide +kernel) (hts _ mw_1271)) (hts _ mw_1273) (hts _ ms_Mo_readRest) ⟨tz_blind, sv_recv (q0 := 0) hts in_Mo hK hI kM_0 rfl, fun U hU hW => ⟨rfl, by rw [hU], by rw [hU]; exact hI.1, va_K.moved hW.alike hK, hst _ _ hI.2 U hU hW⟩⟩ rfl rfl hl.1 rfl (lv_room (Nat.le_of_ble_eq_true rfl)) d_Mo_step_119 ⟨Nat.le_of_ble_eq_true rfl, Nat.le_of_ble_eq_true rfl⟩) hI.2 (fun q _ h => ga_sub hAC hA0 hI.2 q h) (ga_sub hAC hA0 hI.2) (fun v t H1 locs1 ht hWt hpost _ _ hS => ?_) (fun x t H1 locs1 ht hWt hpost _ _ hS => (hpost.2 x rfl).elim)
          rcases hpost.1 _ rfl with ⟨t_tr270, hv, c271, c271_0, hI1⟩ | ⟨hv, c272, c272_0, hI1⟩
          · cases hv
            have hI : sI (dC, dI) vcl cI cJ (gsM a th t_tr270 dp t90z_zi t90z_co sh lt ts mf) A s.heap H1 locs1 := ⟨by rw [← ht]; exact hI1, hS⟩
            obtain ⟨-, ⟨o273, o274⟩, -, -, -, -, -, -, -⟩ := id c271
            clear hpost hI1 hS ht hWt
            revert hI; generalize H1 = H; generalize locs1 = locs; intro hI
            refine lv_aload_n hx hb d_Mo_step_122 rfl (lv_at hl 0 rfl) ?_
            refine sv_gete (C := "StoryMachineModel") (T := T_Mo) (N := 51) hx hb hts in_Mo hown hK hI 0 kM_0 rfl 25 (by decide) (hts _ mw_1088) rfl d_Mo_step_123 (fun z275 hz275 => ?_)
            refine sn_if_le (tgt := 130) hx hb d_Mo_step_126 (by decide) (fun b276 => ?_) (fun b276 => ?_)
            · omega
            · subst hZ
              exact tz_ret (W.vret hx hb hr (fun t ht hW => ⟨⟨fun v9 hv9 => by cases hv9; exact (Or.inl ⟨t_tr270, dp, t90z_zi, t90z_co, sh, lt, mf, rfl, c271, by omega, by omega, by rw [ht]; exact hI.1⟩), fun x9 hx9 => (by cases hx9)⟩, hI.2.F ht⟩) hI.2.2.2 d_Mo_step_129)
          · cases hv
            have hI : sI (dC, dI) vcl cI cJ (gsM a th t90z_tr dp t90z_zi t90z_co sh lt ts mf) A s.heap H1 locs1 := ⟨by rw [← ht]; exact hI1, hS⟩
            clear hpost hI1 hS ht hWt
            revert hI; generalize H1 = H; generalize locs1 = locs; intro hI
            refine lv_aload_n hx hb d_Mo_step_122 rfl (lv_at hl 0 rfl) ?_
            refine sv_gete (C := "StoryMachineModel") (T := T_Mo) (N := 51) hx hb hts in_Mo hown hK hI 0 kM_0 rfl 25 (by decide) (hts _ mw_1088) rfl d_Mo_step_123 (fun z277 hz277 => ?_)
            refine sn_if_le (tgt := 130) hx hb d_Mo_step_126 (by decide) (fun b278 => ?_) (fun b278 => ?_)
            · refine lv_aload_n hx hb d_Mo_step_130 rfl (lv_at hl 0 rfl) ?_
              refine sv_gete (C := "StoryMachineModel") (T := T_Mo) (N := 51) hx hb hts in_Mo hown hK hI 0 kM_0 rfl 38 (by decide) (hts _ mw_1101) rfl d_Mo_step_131 (fun z279 hz279 => ?_)
              refine sn_if_le (tgt := 146) hx hb d_Mo_step_134 (by decide) (fun b280 => ?_) (fun b280 => ?_)
              · refine sn_iconst hx hb d_Mo_step_146 (by decide) (fun z281 hz281 => ?_)
                refine lv_istore (lv' := [(4, .int z281), (0, .ref (a 0)), (1, .int v90z_1), (2, .int v90z_2), (3, .int v90z_3)]) hx hb d_Mo_step_147 hl (by decide) rfl (fun ls hl => ?_)
                exact j149z _ _ _ v90z_1 v90z_2 v90z_3 z281 t90z_tr t90z_zi t90z_co hI c272 (by omega) (by omega) (by omega) (by omega) (by omega) (by omega) (by omega) (by omega) (by omega) (by omega) (by omega) (lv_sub hl [1, 2, 3, 4, 0] rfl)
              · refine lv_aload_n hx hb d_Mo_step_137 rfl (lv_at hl 0 rfl) ?_
                refine sv_getr (C := "StoryMachineModel") (T := T_Mo) (N := 51) hx hb hts in_Mo hown hK hI 0 kM_0 rfl 39 (by decide) (hts _ mw_1102) rfl d_Mo_step_138 ?_
                refine sn_iconst hx hb d_Mo_step_141 (by decide) (fun z282 hz282 => ?_)
                refine sv_ialdr hx hb hK hI 18 kM_18 (by omega) (by omega) d_Mo_step_142 (fun z283 hz283a hz283b => ?_)
                refine lv_goto (tgt := 147) hx hb d_Mo_step_143 (by decide) ?_
                refine lv_istore (lv' := [(4, .int z283), (0, .ref (a 0)), (1, .int v90z_1), (2, .int v90z_2), (3, .int v90z_3)]) hx hb d_Mo_step_147 hl (by decide) rfl (fun ls hl => ?_)
                exact j149z _ _ _ v90z_1 v90z_2 v90z_3 z283 t90z_tr t90z_zi t90z_co hI c272 (by omega) (by omega) (by omega) (by omega) (by omega) (by omega) (by omega) (by omega) (by omega) (by omega) (by omega) (lv_sub hl [1, 2, 3, 4, 0] rfl)
            · omega
        · omega
  have j51z : ∀ (H : Heap) (locs : List Loc) (ls : Array Slot) (v51z_1 : Int32) (t51z_tr : Int), sI (dC, dI) vcl cI cJ (gsM a th t51z_tr dp zi co sh lt ts mf) A s.heap H locs → okM th t51z_tr dp zi co sh lt ts mf → 0 ≤ v51z_1.toInt → v51z_1.toInt ≤ 255 → 0 ≤ t51z_tr → t51z_tr ≤ 0 → sh ≤ sh + 10010 → lv_has ls 6 [(0, .ref (a 0)), (1, .int v51z_1)] → W p l e (headSpec tw_tbl rm_Mo_step).room s m ([.ref (a 0)] : List Value).toArray below meth c H locs 0 0 Z (F0 m 51 ls []) := by
    intro H locs ls v51z_1 t51z_tr hI hok g51_0 g51_1 g51_2 g51_3 g51_4 hl
    obtain ⟨⟨o284, o285⟩, ⟨o286, o287⟩, ⟨o288, o289⟩, ⟨o290, o291⟩, ⟨o292, o293⟩, ⟨o294, o295⟩, ⟨o296, o297⟩, ⟨o298, o299⟩, -⟩ := id hok
    refine lv_aload_n hx hb d_Mo_step_51 rfl (lv_at hl 0 rfl) ?_
    refine lv_iload_n hx hb d_Mo_step_52 rfl (lv_at hl 1 rfl) ?_
    refine tz_call (A1 := ga (adM a) H.size) (tz_runV (C := "StoryMachineModel") (As := [.int v51z_1]) (rest := []) ⟨hx, hb, hml, hown, hts⟩ (c_Mo_readNumbers l hfl dC dI cI cJ a H.size th t51z_tr dp zi co sh lt ts mf v51z_1 hok (by omega) (by omega)) (tx_cb (n := 1) hts rfl rfl ⟨Nat.le_of_ble_eq_true rfl, Nat.le_of_ble_eq_true rfl⟩ (tx_code.of (hts _ mw_1244)) (hts _ mw_12) (by decide +kernel) (hts _ mw_1241)) (hts _ mw_1243) (hts _ ms_Mo_readNumbers) ⟨tz_blind, sv_recv (q0 := 0) hts in_Mo hK hI kM_0 rfl, fun U hU hW => ⟨rfl, by rw [hU], by rw [hU]; exact hI.1, va_K.moved hW.alike hK, hst _ _ hI.2 U hU hW⟩⟩ rfl rfl hl.1 rfl (lv_room (Nat.le_of_ble_eq_true rfl)) d_Mo_step_53 ⟨Nat.le_of_ble_eq_true rfl, Nat.le_of_ble_eq_true rfl⟩) hI.2 (fun q _ h => ga_sub hAC hA0 hI.2 q h) (ga_sub hAC hA0 hI.2) (fun v t H1 locs1 ht hWt hpost _ _ hS => ?_) (fun x t H1 locs1 ht hWt hpost _ _ hS => (hpost.2 x rfl).elim)
    rcases hpost.1 _ rfl with ⟨t_tr300, t_zi301, t_co302, hv, c303, c303_0, hI1⟩ | ⟨t_co304, hv, c305, c305_0, c305_1, c305_2, hI1⟩ | ⟨t_zi306, t_co307, hv, c308, c308_0, hI1⟩
    · cases hv
      have hI : sI (dC, dI) vcl cI cJ (gsM a th t_tr300 dp t_zi301 t_co302 sh lt ts mf) A s.heap H1 locs1 := ⟨by rw [← ht]; exact hI1, hS⟩
      obtain ⟨-, ⟨o309, o310⟩, -, ⟨o311, o312⟩, ⟨o313, o314⟩, -, -, -, -⟩ := id c303
      clear hpost hI1 hS ht hWt
      revert hI; generalize H1 = H; generalize locs1 = locs; intro hI
      refine lv_aload_n hx hb d_Mo_step_56 rfl (lv_at hl 0 rfl) ?_
      refine sv_gete (C := "StoryMachineModel") (T := T_Mo) (N := 51) hx hb hts in_Mo hown hK hI 0 kM_0 rfl 25 (by decide) (hts _ mw_1088) rfl d_Mo_step_57 (fun z315 hz315 => ?_)
      refine sn_if_le (tgt := 64) hx hb d_Mo_step_60 (by decide) (fun b316 => ?_) (fun b316 => ?_)
      · omega
      · subst hZ
        exact tz_ret (W.vret hx hb hr (fun t ht hW => ⟨⟨fun v9 hv9 => by cases hv9; exact (Or.inl ⟨t_tr300, dp, t_zi301, t_co302, sh, lt, mf, rfl, c303, by omega, by omega, by rw [ht]; exact hI.1⟩), fun x9 hx9 => (by cases hx9)⟩, hI.2.F ht⟩) hI.2.2.2 d_Mo_step_63)
    · cases hv
      have hI : sI (dC, dI) vcl cI cJ (gsM a th t51z_tr dp zi t_co304 sh lt ts mf) A s.heap H1 locs1 := ⟨by rw [← ht]; exact hI1, hS⟩
      obtain ⟨-, -, -, -, ⟨o317, o318⟩, -, -, -, -⟩ := id c305
      clear hpost hI1 hS ht hWt
      revert hI; generalize H1 = H; generalize locs1 = locs; intro hI
      refine lv_aload_n hx hb d_Mo_step_56 rfl (lv_at hl 0 rfl) ?_
      refine sv_gete (C := "StoryMachineModel") (T := T_Mo) (N := 51) hx hb hts in_Mo hown hK hI 0 kM_0 rfl 25 (by decide) (hts _ mw_1088) rfl d_Mo_step_57 (fun z319 hz319 => ?_)
      refine sn_if_le (tgt := 64) hx hb d_Mo_step_60 (by decide) (fun b320 => ?_) (fun b320 => ?_)
      · refine lv_iload_n hx hb d_Mo_step_64 rfl (lv_at hl 1 rfl) ?_
        refine tz_call (A1 := ga (adM a) H.size) (tz_runS (As := [.int v51z_1]) (rest := []) ⟨hx, hb, hml, hown, hts⟩ (c_Mo_listOf l hfl dC dI cI cJ a H.size th t51z_tr dp zi t_co304 sh lt ts mf v51z_1 c305) (tx_cb (n := 1) hts rfl rfl ⟨Nat.le_of_ble_eq_true rfl, Nat.le_of_ble_eq_true rfl⟩ (tx_code.of (hts _ mw_1267)) (hts _ mw_12) (by decide +kernel) (hts _ mw_1265)) (hts _ mw_1266) ⟨tz_blind, fun U hU hW => ⟨rfl, by rw [hU], by rw [hU]; exact hI.1, va_K.moved hW.alike hK, hst _ _ hI.2 U hU hW⟩⟩ rfl rfl hl.1 rfl (lv_room (Nat.le_of_ble_eq_true rfl)) d_Mo_step_65 ⟨Nat.le_of_ble_eq_true rfl, Nat.le_of_ble_eq_true rfl⟩) hI.2 (fun q _ h => ga_sub hAC hA0 hI.2 q h) (ga_sub hAC hA0 hI.2) (fun v t H1 locs1 ht hWt hpost _ _ hS => ?_) (fun x t H1 locs1 ht hWt hpost _ _ hS => (hpost.2 x rfl).elim)
        rcases hpost.1 _ rfl with ⟨z321, hv, c322, c322_0, c322_1, hI1⟩
        cases hv
        have hI : sI (dC, dI) vcl cI cJ (gsM a th t51z_tr dp zi t_co304 sh lt ts mf) A s.heap H1 locs1 := ⟨by rw [← ht]; exact hI1, hS⟩
        clear hpost hI1 hS ht hWt
        revert hI; generalize H1 = H; generalize locs1 = locs; intro hI
        refine lv_istore_n (lv' := [(2, .int z321), (0, .ref (a 0)), (1, .int v51z_1)]) hx hb d_Mo_step_68 rfl hl (by decide) rfl (fun ls hl => ?_)
        refine lv_iload_n hx hb d_Mo_step_69 rfl (lv_at hl 0 rfl) ?_
        refine sn_if_eq (tgt := 78) hx hb d_Mo_step_70 (by decide) (fun b323 => ?_) (fun b323 => ?_)
        · refine lv_iload_n hx hb d_Mo_step_78 rfl (lv_at hl 2 rfl) ?_
          refine sn_bipush hx hb d_Mo_step_79 (by decide) (fun z324 hz324 => ?_)
          refine sn_irem (k := 32) hx hb d_Mo_step_81 (by omega) (by omega) (by omega) (fun z325 hz325 => ?_)
          refine lv_goto (tgt := 89) hx hb d_Mo_step_82 (by decide) ?_
          refine lv_istore_n (lv' := [(3, .int z325), (2, .int z321), (0, .ref (a 0)), (1, .int v51z_1)]) hx hb d_Mo_step_89 rfl hl (by decide) rfl (fun ls hl => ?_)
          exact j90z _ _ _ v51z_1 z321 z325 t51z_tr zi t_co304 hI c322 (by omega) (by omega) (by omega) (by omega) (by omega) (by omega) (by omega) (by omega) (by omega) (lv_sub hl [2, 3, 1, 0] rfl)
        · refine lv_iload_n hx hb d_Mo_step_73 rfl (lv_at hl 0 rfl) ?_
          refine sn_iconst hx hb d_Mo_step_74 (by decide) (fun z326 hz326 => ?_)
          refine sn_icmp_ne (tgt := 85) hx hb d_Mo_step_75 (by decide) (fun b327 => ?_) (fun b327 => ?_)
          · refine lv_iload_n hx hb d_Mo_step_85 rfl (lv_at hl 2 rfl) ?_
            refine sn_bipush hx hb d_Mo_step_86 (by decide) (fun z328 hz328 => ?_)
            refine sn_irem (k := 16) hx hb d_Mo_step_88 (by omega) (by omega) (by omega) (fun z329 hz329 => ?_)
            refine lv_istore_n (lv' := [(3, .int z329), (2, .int z321), (0, .ref (a 0)), (1, .int v51z_1)]) hx hb d_Mo_step_89 rfl hl (by decide) rfl (fun ls hl => ?_)
            exact j90z _ _ _ v51z_1 z321 z329 t51z_tr zi t_co304 hI c322 (by omega) (by omega) (by omega) (by omega) (by omega) (by omega) (by omega) (by omega) (by omega) (lv_sub hl [2, 3, 1, 0] rfl)
          · refine lv_iload_n hx hb d_Mo_step_78 rfl (lv_at hl 2 rfl) ?_
            refine sn_bipush hx hb d_Mo_step_79 (by decide) (fun z330 hz330 => ?_)
            refine sn_irem (k := 32) hx hb d_Mo_step_81 (by omega) (by omega) (by omega) (fun z331 hz331 => ?_)
            refine lv_goto (tgt := 89) hx hb d_Mo_step_82 (by decide) ?_
            refine lv_istore_n (lv' := [(3, .int z331), (2, .int z321), (0, .ref (a 0)), (1, .int v51z_1)]) hx hb d_Mo_step_89 rfl hl (by decide) rfl (fun ls hl => ?_)
            exact j90z _ _ _ v51z_1 z321 z331 t51z_tr zi t_co304 hI c322 (by omega) (by omega) (by omega) (by omega) (by omega) (by omega) (by omega) (by omega) (by omega) (lv_sub hl [2, 3, 1, 0] rfl)
      · omega
    · cases hv
      have hI : sI (dC, dI) vcl cI cJ (gsM a th t51z_tr dp t_zi306 t_co307 sh lt ts mf) A s.heap H1 locs1 := ⟨by rw [← ht]; exact hI1, hS⟩
      obtain ⟨-, -, -, ⟨o332, o333⟩, ⟨o334, o335⟩, -, -, -, -⟩ := id c308
      clear hpost hI1 hS ht hWt
      revert hI; generalize H1 = H; generalize locs1 = locs; intro hI
      refine lv_aload_n hx hb d_Mo_step_56 rfl (lv_at hl 0 rfl) ?_
      refine sv_gete (C := "StoryMachineModel") (T := T_Mo) (N := 51) hx hb hts in_Mo hown hK hI 0 kM_0 rfl 25 (by decide) (hts _ mw_1088) rfl d_Mo_step_57 (fun z336 hz336 => ?_)
      refine sn_if_le (tgt := 64) hx hb d_Mo_step_60 (by decide) (fun b337 => ?_) (fun b337 => ?_)
      · refine lv_iload_n hx hb d_Mo_step_64 rfl (lv_at hl 1 rfl) ?_
        refine tz_call (A1 := ga (adM a) H.size) (tz_runS (As := [.int v51z_1]) (rest := []) ⟨hx, hb, hml, hown, hts⟩ (c_Mo_listOf l hfl dC dI cI cJ a H.size th t51z_tr dp t_zi306 t_co307 sh lt ts mf v51z_1 c308) (tx_cb (n := 1) hts rfl rfl ⟨Nat.le_of_ble_eq_true rfl, Nat.le_of_ble_eq_true rfl⟩ (tx_code.of (hts _ mw_1267)) (hts _ mw_12) (by decide +kernel) (hts _ mw_1265)) (hts _ mw_1266) ⟨tz_blind, fun U hU hW => ⟨rfl, by rw [hU], by rw [hU]; exact hI.1, va_K.moved hW.alike hK, hst _ _ hI.2 U hU hW⟩⟩ rfl rfl hl.1 rfl (lv_room (Nat.le_of_ble_eq_true rfl)) d_Mo_step_65 ⟨Nat.le_of_ble_eq_true rfl, Nat.le_of_ble_eq_true rfl⟩) hI.2 (fun q _ h => ga_sub hAC hA0 hI.2 q h) (ga_sub hAC hA0 hI.2) (fun v t H1 locs1 ht hWt hpost _ _ hS => ?_) (fun x t H1 locs1 ht hWt hpost _ _ hS => (hpost.2 x rfl).elim)
        rcases hpost.1 _ rfl with ⟨z338, hv, c339, c339_0, c339_1, hI1⟩
        cases hv
        have hI : sI (dC, dI) vcl cI cJ (gsM a th t51z_tr dp t_zi306 t_co307 sh lt ts mf) A s.heap H1 locs1 := ⟨by rw [← ht]; exact hI1, hS⟩
        clear hpost hI1 hS ht hWt
        revert hI; generalize H1 = H; generalize locs1 = locs; intro hI
        refine lv_istore_n (lv' := [(2, .int z338), (0, .ref (a 0)), (1, .int v51z_1)]) hx hb d_Mo_step_68 rfl hl (by decide) rfl (fun ls hl => ?_)
        refine lv_iload_n hx hb d_Mo_step_69 rfl (lv_at hl 0 rfl) ?_
        refine sn_if_eq (tgt := 78) hx hb d_Mo_step_70 (by decide) (fun b340 => ?_) (fun b340 => ?_)
        · refine lv_iload_n hx hb d_Mo_step_78 rfl (lv_at hl 2 rfl) ?_
          refine sn_bipush hx hb d_Mo_step_79 (by decide) (fun z341 hz341 => ?_)
          refine sn_irem (k := 32) hx hb d_Mo_step_81 (by omega) (by omega) (by omega) (fun z342 hz342 => ?_)
          refine lv_goto (tgt := 89) hx hb d_Mo_step_82 (by decide) ?_
          refine lv_istore_n (lv' := [(3, .int z342), (2, .int z338), (0, .ref (a 0)), (1, .int v51z_1)]) hx hb d_Mo_step_89 rfl hl (by decide) rfl (fun ls hl => ?_)
          exact j90z _ _ _ v51z_1 z338 z342 t51z_tr t_zi306 t_co307 hI c339 (by omega) (by omega) (by omega) (by omega) (by omega) (by omega) (by omega) (by omega) (by omega) (lv_sub hl [2, 3, 1, 0] rfl)
        · refine lv_iload_n hx hb d_Mo_step_73 rfl (lv_at hl 0 rfl) ?_
          refine sn_iconst hx hb d_Mo_step_74 (by decide) (fun z343 hz343 => ?_)
          refine sn_icmp_ne (tgt := 85) hx hb d_Mo_step_75 (by decide) (fun b344 => ?_) (fun b344 => ?_)
          · refine lv_iload_n hx hb d_Mo_step_85 rfl (lv_at hl 2 rfl) ?_
            refine sn_bipush hx hb d_Mo_step_86 (by decide) (fun z345 hz345 => ?_)
            refine sn_irem (k := 16) hx hb d_Mo_step_88 (by omega) (by omega) (by omega) (fun z346 hz346 => ?_)
            refine lv_istore_n (lv' := [(3, .int z346), (2, .int z338), (0, .ref (a 0)), (1, .int v51z_1)]) hx hb d_Mo_step_89 rfl hl (by decide) rfl (fun ls hl => ?_)
            exact j90z _ _ _ v51z_1 z338 z346 t51z_tr t_zi306 t_co307 hI c339 (by omega) (by omega) (by omega) (by omega) (by omega) (by omega) (by omega) (by omega) (by omega) (lv_sub hl [2, 3, 1, 0] rfl)
          · refine lv_iload_n hx hb d_Mo_step_78 rfl (lv_at hl 2 rfl) ?_
            refine sn_bipush hx hb d_Mo_step_79 (by decide) (fun z347 hz347 => ?_)
            refine sn_irem (k := 32) hx hb d_Mo_step_81 (by omega) (by omega) (by omega) (fun z348 hz348 => ?_)
            refine lv_goto (tgt := 89) hx hb d_Mo_step_82 (by decide) ?_
            refine lv_istore_n (lv' := [(3, .int z348), (2, .int z338), (0, .ref (a 0)), (1, .int v51z_1)]) hx hb d_Mo_step_89 rfl hl (by decide) rfl (fun ls hl => ?_)
            exact j90z _ _ _ v51z_1 z338 z348 t51z_tr t_zi306 t_co307 hI c339 (by omega) (by omega) (by omega) (by omega) (by omega) (by omega) (by omega) (by omega) (by omega) (lv_sub hl [2, 3, 1, 0] rfl)
      · omega
  refine lv_aload_n hx hb d_Mo_step_0 rfl (lv_at hl 0 rfl) ?_
  refine sn_iconst hx hb d_Mo_step_1 (by decide) (fun z349 hz349 => ?_)
  refine sv_put (C := "StoryMachineModel") (T := T_Mo) (N := 51) (ty := .int) hx hb hts in_Mo t_Mo tk_Mo nm_Mo hown hK (sh_in adM_map hAC) hI 0 kM_0 rfl 25 (by decide) (hts _ mw_1088) rfl (by decide +kernel) rfl rfl (Nat.le_of_ble_eq_true rfl) (Int.le_refl _) (Int.le_refl _) pM_0_25 d_Mo_step_2 (fun H locs hI => ?_)
  refine lv_aload_n hx hb d_Mo_step_5 rfl (lv_at hl 0 rfl) ?_
  refine sn_iconst hx hb d_Mo_step_6 (by decide) (fun z350 hz350 => ?_)
  refine sv_put (C := "StoryMachineModel") (T := T_Mo) (N := 51) (ty := .boolean) hx hb hts in_Mo t_Mo tk_Mo nm_Mo hown hK (sh_in adM_map hAC) hI 0 kM_0 rfl 26 (by decide) (hts _ mw_1089) rfl (by decide +kernel) (sn_bool (by omega) (by omega)).1 (sn_bool (by omega) (by omega)).2 (Nat.le_of_ble_eq_true rfl) (by omega) (by omega) pM_0_26 d_Mo_step_7 (fun H locs hI => ?_)
  refine lv_aload_n hx hb d_Mo_step_10 rfl (lv_at hl 0 rfl) ?_
  refine lv_aload_n hx hb d_Mo_step_11 rfl (lv_at hl 0 rfl) ?_
  refine sv_get (C := "StoryMachineModel") (T := T_Mo) (N := 51) hx hb hts in_Mo hown hK hI 0 kM_0 rfl 27 (by decide) (hts _ mw_1090) rfl d_Mo_step_12 (fun z351 hz351a hz351b => ?_)
  refine sv_put (C := "StoryMachineModel") (T := T_Mo) (N := 51) (ty := .int) hx hb hts in_Mo t_Mo tk_Mo nm_Mo hown hK (sh_in adM_map hAC) hI 0 kM_0 rfl 28 (by decide) (hts _ mw_1091) rfl (by decide +kernel) rfl rfl (Nat.le_of_ble_eq_true rfl) (by omega) (by omega) pM_0_28 d_Mo_step_15 (fun H locs hI => ?_)
  refine lv_aload_n hx hb d_Mo_step_18 rfl (lv_at hl 0 rfl) ?_
  have ho352 : okM th z349.toInt dp zi co sh lt ts mf := ⟨hok.1, ⟨by omega, by omega⟩, hok.2.2.1, hok.2.2.2.1, hok.2.2.2.2.1, hok.2.2.2.2.2.1, hok.2.2.2.2.2.2.1, hok.2.2.2.2.2.2.2.1, hok.2.2.2.2.2.2.2.2⟩
  refine tz_call (A1 := ga (adM a) H.size) (tz_runV (C := "StoryMachineModel") (As := []) (rest := []) ⟨hx, hb, hml, hown, hts⟩ (c_Mo_code l hfl dC dI cI cJ a H.size th z349.toInt dp zi co sh lt ts mf  ho352) (tx_cb (n := 0) hts rfl rfl ⟨Nat.le_of_ble_eq_true rfl, Nat.le_of_ble_eq_true rfl⟩ (tx_code.of (hts _ mw_1232)) (hts _ mw_12) (by decide +kernel) (hts _ mw_1229)) (hts _ mw_1231) (hts _ ms_Mo_code) ⟨tz_blind, sv_recv (q0 := 0) hts in_Mo hK hI kM_0 rfl, fun U hU hW => ⟨rfl, by rw [hU], by rw [hU]; exact hI.1, va_K.moved hW.alike hK, hst _ _ hI.2 U hU hW⟩⟩ rfl rfl hl.1 rfl (lv_room (Nat.le_of_ble_eq_true rfl)) d_Mo_step_19 ⟨Nat.le_of_ble_eq_true rfl, Nat.le_of_ble_eq_true rfl⟩) hI.2 (fun q _ h => ga_sub hAC hA0 hI.2 q h) (ga_sub hAC hA0 hI.2) (fun v t H1 locs1 ht hWt hpost _ _ hS => ?_) (fun x t H1 locs1 ht hWt hpost _ _ hS => (hpost.2 x rfl).elim)
  rcases hpost.1 _ rfl with ⟨z353, t_tr354, hv, c355, c355_0, c355_1, c355_2, hI1⟩ | ⟨z356, hv, c357, c357_0, c357_1, c357_2, hI1⟩
  · cases hv
    have hI : sI (dC, dI) vcl cI cJ (gsM a th t_tr354 dp zi co sh lt ts mf) A s.heap H1 locs1 := ⟨by rw [← ht]; exact hI1, hS⟩
    obtain ⟨-, ⟨o358, o359⟩, -, -, -, -, -, -, -⟩ := id c355
    clear hpost hI1 hS ht hWt
    revert hI; generalize H1 = H; generalize locs1 = locs; intro hI
    refine lv_istore_n (lv' := [(1, .int z353), (0, .ref (a 0))]) hx hb d_Mo_step_22 rfl hl (by decide) rfl (fun ls hl => ?_)
    refine lv_aload_n hx hb d_Mo_step_23 rfl (lv_at hl 1 rfl) ?_
    refine lv_iload_n hx hb d_Mo_step_24 rfl (lv_at hl 0 rfl) ?_
    refine sn_sipush hx hb d_Mo_step_25 (by decide) (fun z360 hz360 => ?_)
    refine sn_icmp_ne (tgt := 38) hx hb d_Mo_step_28 (by decide) (fun b361 => ?_) (fun b361 => ?_)
    · refine sn_iconst hx hb d_Mo_step_38 (by decide) (fun z362 hz362 => ?_)
      refine lv_goto (tgt := 43) hx hb d_Mo_step_39 (by decide) ?_
      refine sn_iconst hx hb d_Mo_step_43 (by decide) (fun z363 hz363 => ?_)
      refine tz_call (A1 := ga (adM a) H.size) (tz_runV (C := "StoryMachineModel") (As := [.int z362, .int z363]) (rest := []) ⟨hx, hb, hml, hown, hts⟩ (c_Mo_good l hfl dC dI cI cJ a H.size th t_tr354 dp zi co sh lt ts mf z362 z363 c355 (by omega) (by omega) (by omega) (by omega)) (tx_cb (n := 2) hts rfl rfl ⟨Nat.le_of_ble_eq_true rfl, Nat.le_of_ble_eq_true rfl⟩ (tx_code.of (hts _ mw_1240)) (hts _ mw_12) (by decide +kernel) (hts _ mw_1237)) (hts _ mw_1239) (hts _ ms_Mo_good) ⟨tz_blind, sv_recv (q0 := 0) hts in_Mo hK hI kM_0 rfl, fun U hU hW => ⟨rfl, by rw [hU], by rw [hU]; exact hI.1, va_K.moved hW.alike hK, hst _ _ hI.2 U hU hW⟩⟩ rfl rfl hl.1 rfl (lv_room (Nat.le_of_ble_eq_true rfl)) d_Mo_step_44 ⟨Nat.le_of_ble_eq_true rfl, Nat.le_of_ble_eq_true rfl⟩) hI.2 (fun q _ h => ga_sub hAC hA0 hI.2 q h) (ga_sub hAC hA0 hI.2) (fun v t H1 locs1 ht hWt hpost _ _ hS => ?_) (fun x t H1 locs1 ht hWt hpost _ _ hS => (hpost.2 x rfl).elim)
      rcases hpost.1 _ rfl with ⟨z364, t_tr365, hv, c366, c366_0, c366_1, c366_2, c366_3, hI1⟩ | ⟨z367, hv, c368, c368_0, c368_1, c368_2, c368_3, hI1⟩
      · cases hv
        have hI : sI (dC, dI) vcl cI cJ (gsM a th t_tr365 dp zi co sh lt ts mf) A s.heap H1 locs1 := ⟨by rw [← ht]; exact hI1, hS⟩
        obtain ⟨-, ⟨o369, o370⟩, -, -, -, -, -, -, -⟩ := id c366
        clear hpost hI1 hS ht hWt
        revert hI; generalize H1 = H; generalize locs1 = locs; intro hI
        refine sn_if_ne (tgt := 51) hx hb d_Mo_step_47 (by decide) (fun b371 => ?_) (fun b371 => ?_)
        · omega
        · subst hZ
          exact tz_ret (W.vret hx hb hr (fun t ht hW => ⟨⟨fun v9 hv9 => by cases hv9; exact (Or.inl ⟨t_tr365, dp, zi, co, sh, lt, mf, rfl, c366, by omega, by omega, by rw [ht]; exact hI.1⟩), fun x9 hx9 => (by cases hx9)⟩, hI.2.F ht⟩) hI.2.2.2 d_Mo_step_50)
      · omega
    · omega
  · cases hv
    have hI : sI (dC, dI) vcl cI cJ (gsM a th z349.toInt dp zi co sh lt ts mf) A s.heap H1 locs1 := ⟨by rw [← ht]; exact hI1, hS⟩
    clear hpost hI1 hS ht hWt
    revert hI; generalize H1 = H; generalize locs1 = locs; intro hI
    refine lv_istore_n (lv' := [(1, .int z356), (0, .ref (a 0))]) hx hb d_Mo_step_22 rfl hl (by decide) rfl (fun ls hl => ?_)
    refine lv_aload_n hx hb d_Mo_step_23 rfl (lv_at hl 1 rfl) ?_
    refine lv_iload_n hx hb d_Mo_step_24 rfl (lv_at hl 0 rfl) ?_
    refine sn_sipush hx hb d_Mo_step_25 (by decide) (fun z372 hz372 => ?_)
    refine sn_icmp_ne (tgt := 38) hx hb d_Mo_step_28 (by decide) (fun b373 => ?_) (fun b373 => ?_)
    · refine sn_iconst hx hb d_Mo_step_38 (by decide) (fun z374 hz374 => ?_)
      refine lv_goto (tgt := 43) hx hb d_Mo_step_39 (by decide) ?_
      refine sn_iconst hx hb d_Mo_step_43 (by decide) (fun z375 hz375 => ?_)
      refine tz_call (A1 := ga (adM a) H.size) (tz_runV (C := "StoryMachineModel") (As := [.int z374, .int z375]) (rest := []) ⟨hx, hb, hml, hown, hts⟩ (c_Mo_good l hfl dC dI cI cJ a H.size th z349.toInt dp zi co sh lt ts mf z374 z375 c357 (by omega) (by omega) (by omega) (by omega)) (tx_cb (n := 2) hts rfl rfl ⟨Nat.le_of_ble_eq_true rfl, Nat.le_of_ble_eq_true rfl⟩ (tx_code.of (hts _ mw_1240)) (hts _ mw_12) (by decide +kernel) (hts _ mw_1237)) (hts _ mw_1239) (hts _ ms_Mo_good) ⟨tz_blind, sv_recv (q0 := 0) hts in_Mo hK hI kM_0 rfl, fun U hU hW => ⟨rfl, by rw [hU], by rw [hU]; exact hI.1, va_K.moved hW.alike hK, hst _ _ hI.2 U hU hW⟩⟩ rfl rfl hl.1 rfl (lv_room (Nat.le_of_ble_eq_true rfl)) d_Mo_step_44 ⟨Nat.le_of_ble_eq_true rfl, Nat.le_of_ble_eq_true rfl⟩) hI.2 (fun q _ h => ga_sub hAC hA0 hI.2 q h) (ga_sub hAC hA0 hI.2) (fun v t H1 locs1 ht hWt hpost _ _ hS => ?_) (fun x t H1 locs1 ht hWt hpost _ _ hS => (hpost.2 x rfl).elim)
      rcases hpost.1 _ rfl with ⟨z376, t_tr377, hv, c378, c378_0, c378_1, c378_2, c378_3, hI1⟩ | ⟨z379, hv, c380, c380_0, c380_1, c380_2, c380_3, hI1⟩
      · cases hv
        have hI : sI (dC, dI) vcl cI cJ (gsM a th t_tr377 dp zi co sh lt ts mf) A s.heap H1 locs1 := ⟨by rw [← ht]; exact hI1, hS⟩
        obtain ⟨-, ⟨o381, o382⟩, -, -, -, -, -, -, -⟩ := id c378
        clear hpost hI1 hS ht hWt
        revert hI; generalize H1 = H; generalize locs1 = locs; intro hI
        refine sn_if_ne (tgt := 51) hx hb d_Mo_step_47 (by decide) (fun b383 => ?_) (fun b383 => ?_)
        · omega
        · subst hZ
          exact tz_ret (W.vret hx hb hr (fun t ht hW => ⟨⟨fun v9 hv9 => by cases hv9; exact (Or.inl ⟨t_tr377, dp, zi, co, sh, lt, mf, rfl, c378, by omega, by omega, by rw [ht]; exact hI.1⟩), fun x9 hx9 => (by cases hx9)⟩, hI.2.F ht⟩) hI.2.2.2 d_Mo_step_50)
      · cases hv
        have hI : sI (dC, dI) vcl cI cJ (gsM a th z349.toInt dp zi co sh lt ts mf) A s.heap H1 locs1 := ⟨by rw [← ht]; exact hI1, hS⟩
        clear hpost hI1 hS ht hWt
        revert hI; generalize H1 = H; generalize locs1 = locs; intro hI
        refine sn_if_ne (tgt := 51) hx hb d_Mo_step_47 (by decide) (fun b384 => ?_) (fun b384 => ?_)
        · exact j51z _ _ _ z356 z349.toInt hI c380 (by omega) (by omega) (by omega) (by omega) (by omega) (lv_sub hl [1, 0] rfl)
        · omega
    · refine lv_aload_n hx hb d_Mo_step_31 rfl (lv_at hl 1 rfl) ?_
      refine sv_get (C := "StoryMachineModel") (T := T_Mo) (N := 51) hx hb hts in_Mo hown hK hI 0 kM_0 rfl 33 (by decide) (hts _ mw_1096) rfl d_Mo_step_32 (fun z385 hz385a hz385b => ?_)
      refine sn_if_eq (tgt := 42) hx hb d_Mo_step_35 (by decide) (fun b386 => ?_) (fun b386 => ?_)
      · refine sn_iconst hx hb d_Mo_step_42 (by decide) (fun z387 hz387 => ?_)
        refine sn_iconst hx hb d_Mo_step_43 (by decide) (fun z388 hz388 => ?_)
        refine tz_call (A1 := ga (adM a) H.size) (tz_runV (C := "StoryMachineModel") (As := [.int z387, .int z388]) (rest := []) ⟨hx, hb, hml, hown, hts⟩ (c_Mo_good l hfl dC dI cI cJ a H.size th z349.toInt dp zi co sh lt ts mf z387 z388 c357 (by omega) (by omega) (by omega) (by omega)) (tx_cb (n := 2) hts rfl rfl ⟨Nat.le_of_ble_eq_true rfl, Nat.le_of_ble_eq_true rfl⟩ (tx_code.of (hts _ mw_1240)) (hts _ mw_12) (by decide +kernel) (hts _ mw_1237)) (hts _ mw_1239) (hts _ ms_Mo_good) ⟨tz_blind, sv_recv (q0 := 0) hts in_Mo hK hI kM_0 rfl, fun U hU hW => ⟨rfl, by rw [hU], by rw [hU]; exact hI.1, va_K.moved hW.alike hK, hst _ _ hI.2 U hU hW⟩⟩ rfl rfl hl.1 rfl (lv_room (Nat.le_of_ble_eq_true rfl)) d_Mo_step_44 ⟨Nat.le_of_ble_eq_true rfl, Nat.le_of_ble_eq_true rfl⟩) hI.2 (fun q _ h => ga_sub hAC hA0 hI.2 q h) (ga_sub hAC hA0 hI.2) (fun v t H1 locs1 ht hWt hpost _ _ hS => ?_) (fun x t H1 locs1 ht hWt hpost _ _ hS => (hpost.2 x rfl).elim)
        rcases hpost.1 _ rfl with ⟨z389, t_tr390, hv, c391, c391_0, c391_1, c391_2, c391_3, hI1⟩ | ⟨z392, hv, c393, c393_0, c393_1, c393_2, c393_3, hI1⟩
        · cases hv
          have hI : sI (dC, dI) vcl cI cJ (gsM a th t_tr390 dp zi co sh lt ts mf) A s.heap H1 locs1 := ⟨by rw [← ht]; exact hI1, hS⟩
          obtain ⟨-, ⟨o394, o395⟩, -, -, -, -, -, -, -⟩ := id c391
          clear hpost hI1 hS ht hWt
          revert hI; generalize H1 = H; generalize locs1 = locs; intro hI
          refine sn_if_ne (tgt := 51) hx hb d_Mo_step_47 (by decide) (fun b396 => ?_) (fun b396 => ?_)
          · omega
          · subst hZ
            exact tz_ret (W.vret hx hb hr (fun t ht hW => ⟨⟨fun v9 hv9 => by cases hv9; exact (Or.inl ⟨t_tr390, dp, zi, co, sh, lt, mf, rfl, c391, by omega, by omega, by rw [ht]; exact hI.1⟩), fun x9 hx9 => (by cases hx9)⟩, hI.2.F ht⟩) hI.2.2.2 d_Mo_step_50)
        · omega
      · refine sn_iconst hx hb d_Mo_step_38 (by decide) (fun z397 hz397 => ?_)
        refine lv_goto (tgt := 43) hx hb d_Mo_step_39 (by decide) ?_
        refine sn_iconst hx hb d_Mo_step_43 (by decide) (fun z398 hz398 => ?_)
        refine tz_call (A1 := ga (adM a) H.size) (tz_runV (C := "StoryMachineModel") (As := [.int z397, .int z398]) (rest := []) ⟨hx, hb, hml, hown, hts⟩ (c_Mo_good l hfl dC dI cI cJ a H.size th z349.toInt dp zi co sh lt ts mf z397 z398 c357 (by omega) (by omega) (by omega) (by omega)) (tx_cb (n := 2) hts rfl rfl ⟨Nat.le_of_ble_eq_true rfl, Nat.le_of_ble_eq_true rfl⟩ (tx_code.of (hts _ mw_1240)) (hts _ mw_12) (by decide +kernel) (hts _ mw_1237)) (hts _ mw_1239) (hts _ ms_Mo_good) ⟨tz_blind, sv_recv (q0 := 0) hts in_Mo hK hI kM_0 rfl, fun U hU hW => ⟨rfl, by rw [hU], by rw [hU]; exact hI.1, va_K.moved hW.alike hK, hst _ _ hI.2 U hU hW⟩⟩ rfl rfl hl.1 rfl (lv_room (Nat.le_of_ble_eq_true rfl)) d_Mo_step_44 ⟨Nat.le_of_ble_eq_true rfl, Nat.le_of_ble_eq_true rfl⟩) hI.2 (fun q _ h => ga_sub hAC hA0 hI.2 q h) (ga_sub hAC hA0 hI.2) (fun v t H1 locs1 ht hWt hpost _ _ hS => ?_) (fun x t H1 locs1 ht hWt hpost _ _ hS => (hpost.2 x rfl).elim)
        rcases hpost.1 _ rfl with ⟨z399, t_tr400, hv, c401, c401_0, c401_1, c401_2, c401_3, hI1⟩ | ⟨z402, hv, c403, c403_0, c403_1, c403_2, c403_3, hI1⟩
        · cases hv
          have hI : sI (dC, dI) vcl cI cJ (gsM a th t_tr400 dp zi co sh lt ts mf) A s.heap H1 locs1 := ⟨by rw [← ht]; exact hI1, hS⟩
          obtain ⟨-, ⟨o404, o405⟩, -, -, -, -, -, -, -⟩ := id c401
          clear hpost hI1 hS ht hWt
          revert hI; generalize H1 = H; generalize locs1 = locs; intro hI
          refine sn_if_ne (tgt := 51) hx hb d_Mo_step_47 (by decide) (fun b406 => ?_) (fun b406 => ?_)
          · omega
          · subst hZ
            exact tz_ret (W.vret hx hb hr (fun t ht hW => ⟨⟨fun v9 hv9 => by cases hv9; exact (Or.inl ⟨t_tr400, dp, zi, co, sh, lt, mf, rfl, c401, by omega, by omega, by rw [ht]; exact hI.1⟩), fun x9 hx9 => (by cases hx9)⟩, hI.2.F ht⟩) hI.2.2.2 d_Mo_step_50)
        · cases hv
          have hI : sI (dC, dI) vcl cI cJ (gsM a th z349.toInt dp zi co sh lt ts mf) A s.heap H1 locs1 := ⟨by rw [← ht]; exact hI1, hS⟩
          clear hpost hI1 hS ht hWt
          revert hI; generalize H1 = H; generalize locs1 = locs; intro hI
          refine sn_if_ne (tgt := 51) hx hb d_Mo_step_47 (by decide) (fun b407 => ?_) (fun b407 => ?_)
          · exact j51z _ _ _ z356 z349.toInt hI c403 (by omega) (by omega) (by omega) (by omega) (by omega) (lv_sub hl [1, 0] rfl)
          · omega
