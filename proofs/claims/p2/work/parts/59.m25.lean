abbrev q_En_tryStep (dC : Nat → ClassId) (dI : Nat → Nat → Nat) (cI cJ : ClassId) (a : Nat → Nat) (he dp co li op wd tl lc fo : Int) (sf lf nf : Nat → Int32) : Outcome → State → Prop := fun o t => (∀ v, o = .returned v → ((∃ (z : Int32) (he_ dp_ co_ li_ op_ wd_ lc_ fo_ : Int) (sf_ lf_ nf_ : Nat → Int32), v = some (.int z) ∧ okC he_ dp_ co_ li_ op_ wd_ tl lc_ fo_ sf_ lf_ nf_ ∧ (0 ≤ z.toInt) ∧ (z.toInt ≤ 5) ∧ sh_I (dC, dI) vcl cI cJ (gsC a he_ dp_ co_ li_ op_ wd_ tl lc_ fo_ sf_ lf_ nf_) t.heap))) ∧ (∀ x, o = .threw x → (False))
def rm_En_tryStep : Room := { frames := 13, cells := 1, slots := 6, locals := 261 }
set_option maxHeartbeats 4000000 in
set_option maxRecDepth 100000 in
theorem c_En_tryStep (l : Launch) (hfl : l.flags = pinnedFlags ++ [noTraceFlag]) (dC : Nat → ClassId) (dI : Nat → Nat → Nat) (cI cJ : ClassId) (a : Nat → Nat) (sz : Nat) (he dp co li op wd tl lc fo : Int) (sf lf nf : Nat → Int32) (hok : okC he dp co li op wd tl lc fo sf lf nf) : tz_Met l ⟨"StoryMachine$Engine", "tryStep", "()I"⟩ tw_tbl rm_En_tryStep (tzP (dC, dI) vcl cI cJ (gsC a he dp co li op wd tl lc fo sf lf nf) a (adC a) [.ref (a 5)] sz) (tq_Q (q_En_tryStep dC dI cI cJ a he dp co li op wd tl lc fo sf lf nf) (ga (adC a) sz)) 1 6 0 0 (ga (adC a) sz) := by
  refine tz_ofW (cc := prog_4_method_3_code) (maxL := 3) (ret := (some .int)) (by decide) (tx_isWM mw_491) ?_
  intro p e s m args below meth c s₁ B hml hv
  obtain ⟨rfl, hsz, hI0, hK, hst0⟩ := hv
  have hx := B.exec
  have hb := B.bytes
  have hr := B.returns
  have hts := atoms_spec (ws := tw_tbl) B.pre
  have hown : s.vm.findClass "StoryMachine$Engine" = some m.cls := findClass_of_methodNamed B.named
  have hlocks := B.notSynchronized
  subst hsz
  have hst := fun (H : Heap) (locs : List Loc) (hS : va_S (ga (adC a) s.heap.size) s.heap H locs) (U : State) (hU : U.heap = H) (hW : s.WarmedH U.vm) => zS_all adC_map hI0 hst0 hS hU hW
  have hAC : ∀ q ∈ adC a, ga (adC a) s.heap.size q := fun q h => Or.inl h
  have hA0 : ∀ q, s.heap.size ≤ q → ga (adC a) s.heap.size q := fun q h => Or.inr h
  have hI : sI (dC, dI) vcl cI cJ (gsC a he dp co li op wd tl lc fo sf lf nf) (ga (adC a) s.heap.size) s.heap s.heap [] := ⟨hI0, va_S.rf⟩
  clear hI0 hst0
  have hl := lv_entry ([.ref (a 5)]) (n := 3) (Nat.le_of_ble_eq_true rfl)
  rw [lg_entry_eq]
  generalize (lg_sl ([.ref (a 5)]) ++ List.replicate (3 - (lg_sl ([.ref (a 5)])).length) Slot.unset).toArray = ls at hl ⊢
  have hl : lv_has ls 3 [(0, .ref (a 5))] := hl
  generalize hZ : tz_MQ below (tq_Q (q_En_tryStep dC dI cI cJ a he dp co li op wd tl lc fo sf lf nf) (ga (adC a) s.heap.size)) ([.ref (a 5)] : List Value).toArray s 1 6 0 0 (ga (adC a) s.heap.size) = Z
  obtain ⟨A, hAe⟩ : ∃ A, A = ga (adC a) s.heap.size := ⟨_, rfl⟩
  rw [← hAe] at hst hAC hA0 hI hZ
  refine sv_start hI (fun H locs hI => ?_)
  obtain ⟨⟨o1, o2⟩, ⟨o3, o4⟩, ⟨o5, o6⟩, ⟨o7, o8⟩, ⟨o9, o10⟩, ⟨o11, o12⟩, ⟨o13, o14⟩, ⟨o15, o16⟩, ⟨o17, o18⟩, o19, -, -⟩ := id hok
  have j115 : ∀ (H : Heap) (locs : List Loc) (ls : Array Slot) (t115_he t115_dp t115_co t115_li t115_op t115_wd t115_lc t115_fo : Int) (t115_sf t115_lf t115_nf : Nat → Int32), sI (dC, dI) vcl cI cJ (gsC a t115_he t115_dp t115_co t115_li t115_op t115_wd tl t115_lc t115_fo t115_sf t115_lf t115_nf) A s.heap H locs → okC t115_he t115_dp t115_co t115_li t115_op t115_wd tl t115_lc t115_fo t115_sf t115_lf t115_nf → 1 ≤ t115_fo → t115_fo ≤ 7 → lv_has ls 3 [(0, .ref (a 5)), (1, .ref (a 25))] → W p l e (headSpec tw_tbl rm_En_tryStep).room s m ([.ref (a 5)] : List Value).toArray below meth c H locs 0 0 Z (F0 m 115 ls []) := by
    intro H locs ls t115_he t115_dp t115_co t115_li t115_op t115_wd t115_lc t115_fo t115_sf t115_lf t115_nf hI hok g115_0 g115_1 hl
    obtain ⟨⟨o20, o21⟩, ⟨o22, o23⟩, ⟨o24, o25⟩, ⟨o26, o27⟩, ⟨o28, o29⟩, ⟨o30, o31⟩, ⟨o32, o33⟩, ⟨o34, o35⟩, ⟨o36, o37⟩, o38, -, -⟩ := id hok
    refine lv_goto (tgt := 145) hx hb d_En_tryStep_115 (by decide) ?_
    refine lv_aload_n hx hb d_En_tryStep_145 rfl (lv_at hl 0 rfl) ?_
    refine lv_aload_n hx hb d_En_tryStep_146 rfl (lv_at hl 0 rfl) ?_
    refine sv_get (C := "StoryMachine$Engine") (T := T_En) (N := 15) hx hb hts in_En hown hK hI 5 kC_5 rfl 13 (by decide) (hts _ mw_277) rfl d_En_tryStep_147 (fun z39 hz39a hz39b => ?_)
    refine sv_put (C := "StoryMachine$Engine") (T := T_En) (N := 15) (ty := .int) hx hb hts in_En t_En tk_En nm_En hown hK (sh_in adC_map hAC) hI 5 kC_5 rfl 11 (by decide) (hts _ mw_273) rfl (by decide +kernel) rfl rfl (Nat.le_of_ble_eq_true rfl) (by omega) (by omega) pC_5_11 d_En_tryStep_150 (fun H locs hI => ?_)
    refine lv_aload_n hx hb d_En_tryStep_153 rfl (lv_at hl 0 rfl) ?_
    refine lv_dup hx hb d_En_tryStep_154 rfl ?_
    refine sv_get (C := "StoryMachine$Engine") (T := T_En) (N := 15) hx hb hts in_En hown hK hI 5 kC_5 rfl 12 (by decide) (hts _ mw_275) rfl d_En_tryStep_155 (fun z40 hz40a hz40b => ?_)
    refine sn_iconst hx hb d_En_tryStep_158 (by decide) (fun z41 hz41 => ?_)
    refine sn_iaddT hx hb d_En_tryStep_159 (fun z42 hz42a hz42b => ?_)
    refine sv_put (C := "StoryMachine$Engine") (T := T_En) (N := 15) (ty := .int) hx hb hts in_En t_En tk_En nm_En hown hK (sh_in adC_map hAC) hI 5 kC_5 rfl 12 (by decide) (hts _ mw_275) rfl (by decide +kernel) rfl rfl (Nat.le_of_ble_eq_true rfl) (by omega) (by omega) pC_5_12 d_En_tryStep_160 (fun H locs hI => ?_)
    refine lv_aload_n hx hb d_En_tryStep_163 rfl (lv_at hl 0 rfl) ?_
    refine sv_get (C := "StoryMachine$Engine") (T := T_En) (N := 15) hx hb hts in_En hown hK hI 5 kC_5 rfl 10 (by decide) (hts _ mw_271) rfl d_En_tryStep_164 (fun z43 hz43a hz43b => ?_)
    refine sn_if_eq (tgt := 174) hx hb d_En_tryStep_167 (by decide) (fun b44 => ?_) (fun b44 => ?_)
    · refine sn_iconst hx hb d_En_tryStep_174 (by decide) (fun z45 hz45 => ?_)
      refine W.widen (k := 1) (n := 6) (Nat.le_of_ble_eq_true rfl) (Nat.le_of_ble_eq_true rfl) ?_
      subst hZ
      exact tz_ret (W.iret (v := z45) hx hb hr (fun t ht hW => ⟨⟨fun v9 hv9 => by cases hv9; exact (⟨z45, t115_he, t115_dp, t115_co, t115_li, t115_op, t115_wd, t115_lc, t115_fo, t115_sf, t115_lf, t115_nf, rfl, hok, by omega, by omega, by rw [ht]; exact hI.1⟩), fun x9 hx9 => (by cases hx9)⟩, hI.2.F ht⟩) hI.2.2.2 d_En_tryStep_175)
    · refine sn_iconst hx hb d_En_tryStep_170 (by decide) (fun z46 hz46 => ?_)
      refine lv_goto (tgt := 175) hx hb d_En_tryStep_171 (by decide) ?_
      refine W.widen (k := 1) (n := 6) (Nat.le_of_ble_eq_true rfl) (Nat.le_of_ble_eq_true rfl) ?_
      subst hZ
      exact tz_ret (W.iret (v := z46) hx hb hr (fun t ht hW => ⟨⟨fun v9 hv9 => by cases hv9; exact (⟨z46, t115_he, t115_dp, t115_co, t115_li, t115_op, t115_wd, t115_lc, t115_fo, t115_sf, t115_lf, t115_nf, rfl, hok, by omega, by omega, by rw [ht]; exact hI.1⟩), fun x9 hx9 => (by cases hx9)⟩, hI.2.F ht⟩) hI.2.2.2 d_En_tryStep_175)
  refine lv_aload_n hx hb d_En_tryStep_0 rfl (lv_at hl 0 rfl) ?_
  refine sv_getr (C := "StoryMachine$Engine") (T := T_En) (N := 15) hx hb hts in_En hown hK hI 5 kC_5 rfl 7 (by decide) (hts _ mw_268) rfl d_En_tryStep_1 ?_
  refine sv_getr (C := "StoryMachine$Instruction") (T := T_In) (N := 11) hx hb hts in_In hown hK hI 19 kC_19 rfl 2 (by decide) (hts _ mw_222) rfl d_En_tryStep_4 ?_
  refine lv_astore_n (lv' := [(1, .ref (a 25)), (0, .ref (a 5))]) hx hb d_En_tryStep_7 rfl hl (by decide) rfl (fun ls hl => ?_)
  refine lv_aload_n hx hb d_En_tryStep_8 rfl (lv_at hl 1 rfl) ?_
  refine sv_getr (C := "StoryMachine$Engine") (T := T_En) (N := 15) hx hb hts in_En hown hK hI 5 kC_5 rfl 7 (by decide) (hts _ mw_268) rfl d_En_tryStep_9 ?_
  refine lv_aload_n hx hb d_En_tryStep_12 rfl (lv_at hl 1 rfl) ?_
  refine sv_get (C := "StoryMachine$Engine") (T := T_En) (N := 15) hx hb hts in_En hown hK hI 5 kC_5 rfl 11 (by decide) (hts _ mw_273) rfl d_En_tryStep_13 (fun z47 hz47a hz47b => ?_)
  refine lv_aload_n hx hb d_En_tryStep_16 rfl (lv_at hl 1 rfl) ?_
  refine sv_getr (C := "StoryMachine$Engine") (T := T_En) (N := 15) hx hb hts in_En hown hK hI 5 kC_5 rfl 1 (by decide) (hts _ mw_262) rfl d_En_tryStep_17 ?_
  refine sv_get (C := "StoryMachine$Line") (T := T_Li) (N := 5) hx hb hts in_Li hown hK hI 2 kC_2 rfl 4 (by decide) (hts _ mw_62) rfl d_En_tryStep_20 (fun z48 hz48a hz48b => ?_)
  refine tz_call (A1 := ga (adC a) H.size) (tz_runV (C := "StoryMachine$Instruction") (As := [.int z47, .int z48]) (rest := []) ⟨hx, hb, hml, hown, hts⟩ (c_In_decode l hfl dC dI cI cJ a H.size he dp co li op wd tl lc fo sf lf nf z47 z48 hok (by omega) (by omega)) (tx_cb (n := 2) hts rfl rfl ⟨Nat.le_of_ble_eq_true rfl, Nat.le_of_ble_eq_true rfl⟩ (tx_code.of (hts _ mw_499)) (hts _ mw_11) (by decide +kernel) (hts _ mw_496)) (hts _ mw_497) (hts _ mw_498) ⟨tz_blind, sv_recv (q0 := 19) hts in_In hK hI kC_19 rfl, fun U hU hW => ⟨rfl, by rw [hU], by rw [hU]; exact hI.1, va_K.moved hW.alike hK, hst _ _ hI.2 U hU hW⟩⟩ rfl rfl hl.1 rfl (lv_room (Nat.le_of_ble_eq_true rfl)) d_En_tryStep_23 ⟨Nat.le_of_ble_eq_true rfl, Nat.le_of_ble_eq_true rfl⟩) hI.2 (fun q _ h => ga_sub hAC hA0 hI.2 q h) (ga_sub hAC hA0 hI.2) (fun v t H1 locs1 ht hWt hpost _ _ hS => ?_) (fun x t H1 locs1 ht hWt hpost _ _ hS => ?_)
  · rcases hpost.1 _ rfl with ⟨t_he49, t_co50, t_li51, t_op52, t_fo53, hv, c54, c54_0, hI1⟩
    cases hv
    have hI : sI (dC, dI) vcl cI cJ (gsC a t_he49 dp t_co50 t_li51 t_op52 wd tl lc t_fo53 sf lf nf) A s.heap H1 locs1 := ⟨by rw [← ht]; exact hI1, hS⟩
    obtain ⟨⟨o55, o56⟩, -, ⟨o57, o58⟩, ⟨o59, o60⟩, ⟨o61, o62⟩, -, -, -, ⟨o63, o64⟩, o65, -, -⟩ := id c54
    clear hpost hI1 hS ht hWt
    revert hI; generalize H1 = H; generalize locs1 = locs; intro hI
    refine lv_aload_n hx hb d_En_tryStep_26 rfl (lv_at hl 1 rfl) ?_
    refine lv_aload_n hx hb d_En_tryStep_27 rfl (lv_at hl 1 rfl) ?_
    refine sv_getr (C := "StoryMachine$Engine") (T := T_En) (N := 15) hx hb hts in_En hown hK hI 5 kC_5 rfl 7 (by decide) (hts _ mw_268) rfl d_En_tryStep_28 ?_
    refine sv_get (C := "StoryMachine$Instruction") (T := T_In) (N := 11) hx hb hts in_In hown hK hI 19 kC_19 rfl 6 (by decide) (hts _ mw_229) rfl d_En_tryStep_31 (fun z66 hz66a hz66b => ?_)
    refine sv_put (C := "StoryMachine$Engine") (T := T_En) (N := 15) (ty := .int) hx hb hts in_En t_En tk_En nm_En hown hK (sh_in adC_map hAC) hI 5 kC_5 rfl 13 (by decide) (hts _ mw_277) rfl (by decide +kernel) rfl rfl (Nat.le_of_ble_eq_true rfl) (by omega) (by omega) pC_5_13 d_En_tryStep_34 (fun H locs hI => ?_)
    refine lv_aload_n hx hb d_En_tryStep_37 rfl (lv_at hl 1 rfl) ?_
    refine sv_getr (C := "StoryMachine$Engine") (T := T_En) (N := 15) hx hb hts in_En hown hK hI 5 kC_5 rfl 7 (by decide) (hts _ mw_268) rfl d_En_tryStep_38 ?_
    refine sv_gete (C := "StoryMachine$Instruction") (T := T_In) (N := 11) hx hb hts in_In hown hK hI 19 kC_19 rfl 4 (by decide) (hts _ mw_225) rfl d_En_tryStep_41 (fun z67 hz67 => ?_)
    have w68 : W p l e (headSpec tw_tbl rm_En_tryStep).room s m ([.ref (a 5)] : List Value).toArray below meth c H locs 0 0 Z (F0 m 102 ls []) := by
      refine lv_aload_n hx hb d_En_tryStep_102 rfl (lv_at hl 1 rfl) ?_
      refine lv_aload_n hx hb d_En_tryStep_103 rfl (lv_at hl 0 rfl) ?_
      refine sn_iconst hx hb d_En_tryStep_104 (by decide) (fun z69 hz69 => ?_)
      refine sv_ialdr hx hb hK hI 25 kC_25 (by omega) (by omega) d_En_tryStep_105 (fun z70 hz70a hz70b => ?_)
      refine lv_aload_n hx hb d_En_tryStep_106 rfl (lv_at hl 0 rfl) ?_
      refine sn_iconst hx hb d_En_tryStep_107 (by decide) (fun z71 hz71 => ?_)
      refine sv_ialdr hx hb hK hI 25 kC_25 (by omega) (by omega) d_En_tryStep_108 (fun z72 hz72a hz72b => ?_)
      refine lv_aload_n hx hb d_En_tryStep_109 rfl (lv_at hl 0 rfl) ?_
      refine sn_iconst hx hb d_En_tryStep_110 (by decide) (fun z73 hz73 => ?_)
      refine sv_ialdr hx hb hK hI 25 kC_25 (by omega) (by omega) d_En_tryStep_111 (fun z74 hz74a hz74b => ?_)
      refine tz_call (A1 := ga (adC a) H.size) (tz_runV (C := "StoryMachine$Engine") (As := [.int z70, .int z72, .int z74]) (rest := []) ⟨hx, hb, hml, hown, hts⟩ (c_En_doMany l hfl dC dI cI cJ a H.size t_he49 dp t_co50 t_li51 t_op52 wd tl lc t_fo53 sf lf nf z70 z72 z74 c54 (by omega) (by omega) (by omega) (by omega) (by omega) (by omega)) (tx_cb (n := 3) hts rfl rfl ⟨Nat.le_of_ble_eq_true rfl, Nat.le_of_ble_eq_true rfl⟩ (tx_code.of (hts _ mw_868)) (hts _ mw_6) (by decide +kernel) (hts _ mw_865)) (hts _ mw_867) (hts _ ms_En_doMany) ⟨tz_blind, sv_recv (q0 := 5) hts in_En hK hI kC_5 rfl, fun U hU hW => ⟨rfl, by rw [hU], by rw [hU]; exact hI.1, va_K.moved hW.alike hK, hst _ _ hI.2 U hU hW⟩⟩ rfl rfl hl.1 rfl (lv_room (Nat.le_of_ble_eq_true rfl)) d_En_tryStep_112 ⟨Nat.le_of_ble_eq_true rfl, Nat.le_of_ble_eq_true rfl⟩) hI.2 (fun q _ h => ga_sub hAC hA0 hI.2 q h) (ga_sub hAC hA0 hI.2) (fun v t H1 locs1 ht hWt hpost _ _ hS => ?_) (fun x t H1 locs1 ht hWt hpost _ _ hS => ?_)
      · rcases hpost.1 _ rfl with ⟨t_he75, t_dp76, t_wd77, t_lc78, f_sf79, f_lf80, f_nf81, hv, c82, hI1⟩
        cases hv
        have hI : sI (dC, dI) vcl cI cJ (gsC a t_he75 t_dp76 t_co50 t_li51 t_op52 t_wd77 tl t_lc78 t_fo53 f_sf79 f_lf80 f_nf81) A s.heap H1 locs1 := ⟨by rw [← ht]; exact hI1, hS⟩
        obtain ⟨⟨o83, o84⟩, ⟨o85, o86⟩, -, -, -, ⟨o87, o88⟩, -, ⟨o89, o90⟩, -, -, -, -⟩ := id c82
        clear hpost hI1 hS ht hWt
        revert hI; generalize H1 = H; generalize locs1 = locs; intro hI
        exact j115 _ _ _ t_he75 t_dp76 t_co50 t_li51 t_op52 t_wd77 t_lc78 t_fo53 f_sf79 f_lf80 f_nf81 hI c82 (by omega) (by omega) (lv_sub hl [1, 0] rfl)
      · rcases hpost.2 _ rfl with ⟨t_he91, t_wd92, t_lc93, f_sf94, f_lf95, hex, c96, c96_0, hI1⟩ | ⟨t_he97, hex, c98, c98_0, hI1⟩
        · have hI : sI (dC, dI) vcl cI cJ (gsC a t_he91 dp t_co50 t_li51 t_op52 t_wd92 tl t_lc93 t_fo53 f_sf94 f_lf95 nf) A s.heap H1 locs1 := ⟨by rw [← ht]; exact hI1, hS⟩
          obtain ⟨⟨o99, o100⟩, -, -, -, -, ⟨o101, o102⟩, -, ⟨o103, o104⟩, -, -, -, -⟩ := id c96
          obtain ⟨ce, hce, hcl, hvm⟩ := hex
          refine tx_catchN (own := "StoryMachine$Engine") (C := "java/lang/IllegalArgumentException") (X := "java/lang/IllegalArgumentException") [] (tx_tab B (hts _ mw_491)) ((fun _ h => by cases h)) (by decide) (by decide) hown (hts _ mw_492) (by rw [← ht]; exact hce) (fun k h => by rw [hvm] at h; cases h) (by rw [← hWt.alike.findClass]; exact hcl) (hts _ mw_356) ?_
          clear hpost hI1 hS ht hWt hce hcl hvm
          revert hI; generalize H1 = H; generalize locs1 = locs; intro hI
          refine lv_astore_n (lv' := [(2, .ref x), (1, .ref (a 25)), (0, .ref (a 5))]) hx hb d_En_tryStep_118 rfl hl (by decide) rfl (fun ls hl => ?_)
          refine lv_aload_n hx hb d_En_tryStep_119 rfl (lv_at hl 2 rfl) ?_
          refine sn_iconst hx hb d_En_tryStep_120 (by decide) (fun z105 hz105 => ?_)
          refine sv_put (C := "StoryMachine$Engine") (T := T_En) (N := 15) (ty := .boolean) hx hb hts in_En t_En tk_En nm_En hown hK (sh_in adC_map hAC) hI 5 kC_5 rfl 10 (by decide) (hts _ mw_271) rfl (by decide +kernel) (sn_bool (by omega) (by omega)).1 (sn_bool (by omega) (by omega)).2 (Nat.le_of_ble_eq_true rfl) (by omega) (by omega) pC_5_10 d_En_tryStep_121 (fun H locs hI => ?_)
          refine sn_iconst hx hb d_En_tryStep_124 (by decide) (fun z106 hz106 => ?_)
          subst hZ
          exact tz_ret (W.iret (v := z106) hx hb hr (fun t ht hW => ⟨⟨fun v9 hv9 => by cases hv9; exact (⟨z106, t_he91, dp, t_co50, t_li51, t_op52, t_wd92, t_lc93, t_fo53, f_sf94, f_lf95, nf, rfl, c96, by omega, by omega, by rw [ht]; exact hI.1⟩), fun x9 hx9 => (by cases hx9)⟩, hI.2.F ht⟩) hI.2.2.2 d_En_tryStep_125)
        · have hI : sI (dC, dI) vcl cI cJ (gsC a t_he97 dp t_co50 t_li51 t_op52 wd tl lc t_fo53 sf lf nf) A s.heap H1 locs1 := ⟨by rw [← ht]; exact hI1, hS⟩
          obtain ⟨⟨o107, o108⟩, -, -, -, -, -, -, -, -, -, -, -⟩ := id c98
          obtain ⟨ce, hce, hcl, hvm⟩ := hex
          refine tx_catchN (own := "StoryMachine$Engine") (C := "java/lang/IllegalStateException") (X := "java/lang/IllegalStateException") [((8, 115, 118, 134), "java/lang/IllegalArgumentException")] (tx_tab B (hts _ mw_491)) (List.forall_mem_cons.mpr ⟨⟨by decide, by decide, hts _ mw_492, (hst _ [] va_S.rf s rfl (State.WarmedH.refl s)).1 _ _ (List.mem_of_getElem? (i := 4) rfl)⟩, (fun _ h => by cases h)⟩) (by decide) (by decide) hown (hts _ mw_493) (by rw [← ht]; exact hce) (fun k h => by rw [hvm] at h; cases h) (by rw [← hWt.alike.findClass]; exact hcl) (hts _ mw_445) ?_
          clear hpost hI1 hS ht hWt hce hcl hvm
          revert hI; generalize H1 = H; generalize locs1 = locs; intro hI
          refine lv_astore_n (lv' := [(2, .ref x), (1, .ref (a 25)), (0, .ref (a 5))]) hx hb d_En_tryStep_126 rfl hl (by decide) rfl (fun ls hl => ?_)
          refine lv_aload_n hx hb d_En_tryStep_127 rfl (lv_at hl 2 rfl) ?_
          refine sn_iconst hx hb d_En_tryStep_128 (by decide) (fun z109 hz109 => ?_)
          refine sv_put (C := "StoryMachine$Engine") (T := T_En) (N := 15) (ty := .boolean) hx hb hts in_En t_En tk_En nm_En hown hK (sh_in adC_map hAC) hI 5 kC_5 rfl 10 (by decide) (hts _ mw_271) rfl (by decide +kernel) (sn_bool (by omega) (by omega)).1 (sn_bool (by omega) (by omega)).2 (Nat.le_of_ble_eq_true rfl) (by omega) (by omega) pC_5_10 d_En_tryStep_129 (fun H locs hI => ?_)
          refine sn_iconst hx hb d_En_tryStep_132 (by decide) (fun z110 hz110 => ?_)
          subst hZ
          exact tz_ret (W.iret (v := z110) hx hb hr (fun t ht hW => ⟨⟨fun v9 hv9 => by cases hv9; exact (⟨z110, t_he97, dp, t_co50, t_li51, t_op52, wd, lc, t_fo53, sf, lf, nf, rfl, c98, by omega, by omega, by rw [ht]; exact hI.1⟩), fun x9 hx9 => (by cases hx9)⟩, hI.2.F ht⟩) hI.2.2.2 d_En_tryStep_133)
    by_cases b111 : z67.toInt = 0
    · refine sn_tin (v := 0) (off := 28) (tgt := 72) hx hb d_En_tryStep_44 b111 (by decide) (by decide) (by decide) (by decide) ?_
      refine lv_aload_n hx hb d_En_tryStep_72 rfl (lv_at hl 1 rfl) ?_
      refine tz_call (A1 := ga (adC a) H.size) (tz_runV (C := "StoryMachine$Engine") (As := []) (rest := []) ⟨hx, hb, hml, hown, hts⟩ (c_En_doNone l hfl dC dI cI cJ a H.size t_he49 dp t_co50 t_li51 t_op52 wd tl lc t_fo53 sf lf nf  c54) (tx_cb (n := 0) hts rfl rfl ⟨Nat.le_of_ble_eq_true rfl, Nat.le_of_ble_eq_true rfl⟩ (tx_code.of (hts _ mw_599)) (hts _ mw_6) (by decide +kernel) (hts _ mw_596)) (hts _ mw_598) (hts _ ms_En_doNone) ⟨tz_blind, sv_recv (q0 := 5) hts in_En hK hI kC_5 rfl, fun U hU hW => ⟨rfl, by rw [hU], by rw [hU]; exact hI.1, va_K.moved hW.alike hK, hst _ _ hI.2 U hU hW⟩⟩ rfl rfl hl.1 rfl (lv_room (Nat.le_of_ble_eq_true rfl)) d_En_tryStep_73 ⟨Nat.le_of_ble_eq_true rfl, Nat.le_of_ble_eq_true rfl⟩) hI.2 (fun q _ h => ga_sub hAC hA0 hI.2 q h) (ga_sub hAC hA0 hI.2) (fun v t H1 locs1 ht hWt hpost _ _ hS => ?_) (fun x t H1 locs1 ht hWt hpost _ _ hS => ?_)
      · rcases hpost.1 _ rfl with ⟨t_he112, t_dp113, f_nf114, hv, c115, hI1⟩
        cases hv
        have hI : sI (dC, dI) vcl cI cJ (gsC a t_he112 t_dp113 t_co50 t_li51 t_op52 wd tl lc t_fo53 sf lf f_nf114) A s.heap H1 locs1 := ⟨by rw [← ht]; exact hI1, hS⟩
        obtain ⟨⟨o116, o117⟩, ⟨o118, o119⟩, -, -, -, -, -, -, -, -, -, -⟩ := id c115
        clear hpost hI1 hS ht hWt
        revert hI; generalize H1 = H; generalize locs1 = locs; intro hI
        refine lv_goto (tgt := 115) hx hb d_En_tryStep_76 (by decide) ?_
        exact j115 _ _ _ t_he112 t_dp113 t_co50 t_li51 t_op52 wd lc t_fo53 sf lf f_nf114 hI c115 (by omega) (by omega) (lv_sub hl [1, 0] rfl)
      · rcases hpost.2 _ rfl with ⟨t_he120, t_dp121, hex, c122, c122_0, hI1⟩ | ⟨t_he123, t_dp124, hex, c125, c125_0, hI1⟩
        · have hI : sI (dC, dI) vcl cI cJ (gsC a t_he120 t_dp121 t_co50 t_li51 t_op52 wd tl lc t_fo53 sf lf nf) A s.heap H1 locs1 := ⟨by rw [← ht]; exact hI1, hS⟩
          obtain ⟨⟨o126, o127⟩, ⟨o128, o129⟩, -, -, -, -, -, -, -, -, -, -⟩ := id c122
          obtain ⟨ce, hce, hcl, hvm⟩ := hex
          refine tx_catchN (own := "StoryMachine$Engine") (C := "java/lang/IllegalArgumentException") (X := "java/lang/IllegalArgumentException") [] (tx_tab B (hts _ mw_491)) ((fun _ h => by cases h)) (by decide) (by decide) hown (hts _ mw_492) (by rw [← ht]; exact hce) (fun k h => by rw [hvm] at h; cases h) (by rw [← hWt.alike.findClass]; exact hcl) (hts _ mw_356) ?_
          clear hpost hI1 hS ht hWt hce hcl hvm
          revert hI; generalize H1 = H; generalize locs1 = locs; intro hI
          refine lv_astore_n (lv' := [(2, .ref x), (1, .ref (a 25)), (0, .ref (a 5))]) hx hb d_En_tryStep_118 rfl hl (by decide) rfl (fun ls hl => ?_)
          refine lv_aload_n hx hb d_En_tryStep_119 rfl (lv_at hl 2 rfl) ?_
          refine sn_iconst hx hb d_En_tryStep_120 (by decide) (fun z130 hz130 => ?_)
          refine sv_put (C := "StoryMachine$Engine") (T := T_En) (N := 15) (ty := .boolean) hx hb hts in_En t_En tk_En nm_En hown hK (sh_in adC_map hAC) hI 5 kC_5 rfl 10 (by decide) (hts _ mw_271) rfl (by decide +kernel) (sn_bool (by omega) (by omega)).1 (sn_bool (by omega) (by omega)).2 (Nat.le_of_ble_eq_true rfl) (by omega) (by omega) pC_5_10 d_En_tryStep_121 (fun H locs hI => ?_)
          refine sn_iconst hx hb d_En_tryStep_124 (by decide) (fun z131 hz131 => ?_)
          subst hZ
          exact tz_ret (W.iret (v := z131) hx hb hr (fun t ht hW => ⟨⟨fun v9 hv9 => by cases hv9; exact (⟨z131, t_he120, t_dp121, t_co50, t_li51, t_op52, wd, lc, t_fo53, sf, lf, nf, rfl, c122, by omega, by omega, by rw [ht]; exact hI.1⟩), fun x9 hx9 => (by cases hx9)⟩, hI.2.F ht⟩) hI.2.2.2 d_En_tryStep_125)
        · have hI : sI (dC, dI) vcl cI cJ (gsC a t_he123 t_dp124 t_co50 t_li51 t_op52 wd tl lc t_fo53 sf lf nf) A s.heap H1 locs1 := ⟨by rw [← ht]; exact hI1, hS⟩
          obtain ⟨⟨o132, o133⟩, ⟨o134, o135⟩, -, -, -, -, -, -, -, -, -, -⟩ := id c125
          obtain ⟨ce, hce, hcl, hvm⟩ := hex
          refine tx_catchN (own := "StoryMachine$Engine") (C := "java/lang/IllegalStateException") (X := "java/lang/IllegalStateException") [((8, 115, 118, 134), "java/lang/IllegalArgumentException")] (tx_tab B (hts _ mw_491)) (List.forall_mem_cons.mpr ⟨⟨by decide, by decide, hts _ mw_492, (hst _ [] va_S.rf s rfl (State.WarmedH.refl s)).1 _ _ (List.mem_of_getElem? (i := 4) rfl)⟩, (fun _ h => by cases h)⟩) (by decide) (by decide) hown (hts _ mw_493) (by rw [← ht]; exact hce) (fun k h => by rw [hvm] at h; cases h) (by rw [← hWt.alike.findClass]; exact hcl) (hts _ mw_445) ?_
          clear hpost hI1 hS ht hWt hce hcl hvm
          revert hI; generalize H1 = H; generalize locs1 = locs; intro hI
          refine lv_astore_n (lv' := [(2, .ref x), (1, .ref (a 25)), (0, .ref (a 5))]) hx hb d_En_tryStep_126 rfl hl (by decide) rfl (fun ls hl => ?_)
          refine lv_aload_n hx hb d_En_tryStep_127 rfl (lv_at hl 2 rfl) ?_
          refine sn_iconst hx hb d_En_tryStep_128 (by decide) (fun z136 hz136 => ?_)
          refine sv_put (C := "StoryMachine$Engine") (T := T_En) (N := 15) (ty := .boolean) hx hb hts in_En t_En tk_En nm_En hown hK (sh_in adC_map hAC) hI 5 kC_5 rfl 10 (by decide) (hts _ mw_271) rfl (by decide +kernel) (sn_bool (by omega) (by omega)).1 (sn_bool (by omega) (by omega)).2 (Nat.le_of_ble_eq_true rfl) (by omega) (by omega) pC_5_10 d_En_tryStep_129 (fun H locs hI => ?_)
          refine sn_iconst hx hb d_En_tryStep_132 (by decide) (fun z137 hz137 => ?_)
          subst hZ
          exact tz_ret (W.iret (v := z137) hx hb hr (fun t ht hW => ⟨⟨fun v9 hv9 => by cases hv9; exact (⟨z137, t_he123, t_dp124, t_co50, t_li51, t_op52, wd, lc, t_fo53, sf, lf, nf, rfl, c125, by omega, by omega, by rw [ht]; exact hI.1⟩), fun x9 hx9 => (by cases hx9)⟩, hI.2.F ht⟩) hI.2.2.2 d_En_tryStep_133)
    by_cases b138 : z67.toInt = 1
    · refine sn_tin (v := 1) (off := 35) (tgt := 79) hx hb d_En_tryStep_44 b138 (by decide) (by decide) (by decide) (by decide) ?_
      refine lv_aload_n hx hb d_En_tryStep_79 rfl (lv_at hl 1 rfl) ?_
      refine lv_aload_n hx hb d_En_tryStep_80 rfl (lv_at hl 0 rfl) ?_
      refine sn_iconst hx hb d_En_tryStep_81 (by decide) (fun z139 hz139 => ?_)
      refine sv_ialdr hx hb hK hI 25 kC_25 (by omega) (by omega) d_En_tryStep_82 (fun z140 hz140a hz140b => ?_)
      refine tz_call (A1 := ga (adC a) H.size) (tz_runV (C := "StoryMachine$Engine") (As := [.int z140]) (rest := []) ⟨hx, hb, hml, hown, hts⟩ (c_En_doFirst l hfl dC dI cI cJ a H.size t_he49 dp t_co50 t_li51 t_op52 wd tl lc t_fo53 sf lf nf z140 c54 (by omega) (by omega)) (tx_cb (n := 1) hts rfl rfl ⟨Nat.le_of_ble_eq_true rfl, Nat.le_of_ble_eq_true rfl⟩ (tx_code.of (hts _ mw_731)) (hts _ mw_6) (by decide +kernel) (hts _ mw_728)) (hts _ mw_730) (hts _ ms_En_doFirst) ⟨tz_blind, sv_recv (q0 := 5) hts in_En hK hI kC_5 rfl, fun U hU hW => ⟨rfl, by rw [hU], by rw [hU]; exact hI.1, va_K.moved hW.alike hK, hst _ _ hI.2 U hU hW⟩⟩ rfl rfl hl.1 rfl (lv_room (Nat.le_of_ble_eq_true rfl)) d_En_tryStep_83 ⟨Nat.le_of_ble_eq_true rfl, Nat.le_of_ble_eq_true rfl⟩) hI.2 (fun q _ h => ga_sub hAC hA0 hI.2 q h) (ga_sub hAC hA0 hI.2) (fun v t H1 locs1 ht hWt hpost _ _ hS => ?_) (fun x t H1 locs1 ht hWt hpost _ _ hS => ?_)
      · rcases hpost.1 _ rfl with ⟨t_he141, t_dp142, hv, c143, hI1⟩
        cases hv
        have hI : sI (dC, dI) vcl cI cJ (gsC a t_he141 t_dp142 t_co50 t_li51 t_op52 wd tl lc t_fo53 sf lf nf) A s.heap H1 locs1 := ⟨by rw [← ht]; exact hI1, hS⟩
        obtain ⟨⟨o144, o145⟩, ⟨o146, o147⟩, -, -, -, -, -, -, -, -, -, -⟩ := id c143
        clear hpost hI1 hS ht hWt
        revert hI; generalize H1 = H; generalize locs1 = locs; intro hI
        refine lv_goto (tgt := 115) hx hb d_En_tryStep_86 (by decide) ?_
        exact j115 _ _ _ t_he141 t_dp142 t_co50 t_li51 t_op52 wd lc t_fo53 sf lf nf hI c143 (by omega) (by omega) (lv_sub hl [1, 0] rfl)
      · rcases hpost.2 _ rfl with ⟨t_he148, t_dp149, hex, c150, hI1⟩ | ⟨t_he151, t_dp152, hex, c153, hI1⟩
        · have hI : sI (dC, dI) vcl cI cJ (gsC a t_he148 t_dp149 t_co50 t_li51 t_op52 wd tl lc t_fo53 sf lf nf) A s.heap H1 locs1 := ⟨by rw [← ht]; exact hI1, hS⟩
          obtain ⟨⟨o154, o155⟩, ⟨o156, o157⟩, -, -, -, -, -, -, -, -, -, -⟩ := id c150
          obtain ⟨ce, hce, hcl, hvm⟩ := hex
          refine tx_catchN (own := "StoryMachine$Engine") (C := "java/lang/IllegalArgumentException") (X := "java/lang/IllegalArgumentException") [] (tx_tab B (hts _ mw_491)) ((fun _ h => by cases h)) (by decide) (by decide) hown (hts _ mw_492) (by rw [← ht]; exact hce) (fun k h => by rw [hvm] at h; cases h) (by rw [← hWt.alike.findClass]; exact hcl) (hts _ mw_356) ?_
          clear hpost hI1 hS ht hWt hce hcl hvm
          revert hI; generalize H1 = H; generalize locs1 = locs; intro hI
          refine lv_astore_n (lv' := [(2, .ref x), (1, .ref (a 25)), (0, .ref (a 5))]) hx hb d_En_tryStep_118 rfl hl (by decide) rfl (fun ls hl => ?_)
          refine lv_aload_n hx hb d_En_tryStep_119 rfl (lv_at hl 2 rfl) ?_
          refine sn_iconst hx hb d_En_tryStep_120 (by decide) (fun z158 hz158 => ?_)
          refine sv_put (C := "StoryMachine$Engine") (T := T_En) (N := 15) (ty := .boolean) hx hb hts in_En t_En tk_En nm_En hown hK (sh_in adC_map hAC) hI 5 kC_5 rfl 10 (by decide) (hts _ mw_271) rfl (by decide +kernel) (sn_bool (by omega) (by omega)).1 (sn_bool (by omega) (by omega)).2 (Nat.le_of_ble_eq_true rfl) (by omega) (by omega) pC_5_10 d_En_tryStep_121 (fun H locs hI => ?_)
          refine sn_iconst hx hb d_En_tryStep_124 (by decide) (fun z159 hz159 => ?_)
          subst hZ
          exact tz_ret (W.iret (v := z159) hx hb hr (fun t ht hW => ⟨⟨fun v9 hv9 => by cases hv9; exact (⟨z159, t_he148, t_dp149, t_co50, t_li51, t_op52, wd, lc, t_fo53, sf, lf, nf, rfl, c150, by omega, by omega, by rw [ht]; exact hI.1⟩), fun x9 hx9 => (by cases hx9)⟩, hI.2.F ht⟩) hI.2.2.2 d_En_tryStep_125)
        · have hI : sI (dC, dI) vcl cI cJ (gsC a t_he151 t_dp152 t_co50 t_li51 t_op52 wd tl lc t_fo53 sf lf nf) A s.heap H1 locs1 := ⟨by rw [← ht]; exact hI1, hS⟩
          obtain ⟨⟨o160, o161⟩, ⟨o162, o163⟩, -, -, -, -, -, -, -, -, -, -⟩ := id c153
          obtain ⟨ce, hce, hcl, hvm⟩ := hex
          refine tx_catchN (own := "StoryMachine$Engine") (C := "java/lang/IllegalStateException") (X := "java/lang/IllegalStateException") [((8, 115, 118, 134), "java/lang/IllegalArgumentException")] (tx_tab B (hts _ mw_491)) (List.forall_mem_cons.mpr ⟨⟨by decide, by decide, hts _ mw_492, (hst _ [] va_S.rf s rfl (State.WarmedH.refl s)).1 _ _ (List.mem_of_getElem? (i := 4) rfl)⟩, (fun _ h => by cases h)⟩) (by decide) (by decide) hown (hts _ mw_493) (by rw [← ht]; exact hce) (fun k h => by rw [hvm] at h; cases h) (by rw [← hWt.alike.findClass]; exact hcl) (hts _ mw_445) ?_
          clear hpost hI1 hS ht hWt hce hcl hvm
          revert hI; generalize H1 = H; generalize locs1 = locs; intro hI
          refine lv_astore_n (lv' := [(2, .ref x), (1, .ref (a 25)), (0, .ref (a 5))]) hx hb d_En_tryStep_126 rfl hl (by decide) rfl (fun ls hl => ?_)
          refine lv_aload_n hx hb d_En_tryStep_127 rfl (lv_at hl 2 rfl) ?_
          refine sn_iconst hx hb d_En_tryStep_128 (by decide) (fun z164 hz164 => ?_)
          refine sv_put (C := "StoryMachine$Engine") (T := T_En) (N := 15) (ty := .boolean) hx hb hts in_En t_En tk_En nm_En hown hK (sh_in adC_map hAC) hI 5 kC_5 rfl 10 (by decide) (hts _ mw_271) rfl (by decide +kernel) (sn_bool (by omega) (by omega)).1 (sn_bool (by omega) (by omega)).2 (Nat.le_of_ble_eq_true rfl) (by omega) (by omega) pC_5_10 d_En_tryStep_129 (fun H locs hI => ?_)
          refine sn_iconst hx hb d_En_tryStep_132 (by decide) (fun z165 hz165 => ?_)
          subst hZ
          exact tz_ret (W.iret (v := z165) hx hb hr (fun t ht hW => ⟨⟨fun v9 hv9 => by cases hv9; exact (⟨z165, t_he151, t_dp152, t_co50, t_li51, t_op52, wd, lc, t_fo53, sf, lf, nf, rfl, c153, by omega, by omega, by rw [ht]; exact hI.1⟩), fun x9 hx9 => (by cases hx9)⟩, hI.2.F ht⟩) hI.2.2.2 d_En_tryStep_133)
    by_cases b166 : z67.toInt = 2
    · refine sn_tin (v := 2) (off := 45) (tgt := 89) hx hb d_En_tryStep_44 b166 (by decide) (by decide) (by decide) (by decide) ?_
      refine lv_aload_n hx hb d_En_tryStep_89 rfl (lv_at hl 1 rfl) ?_
      refine lv_aload_n hx hb d_En_tryStep_90 rfl (lv_at hl 0 rfl) ?_
      refine sn_iconst hx hb d_En_tryStep_91 (by decide) (fun z167 hz167 => ?_)
      refine sv_ialdr hx hb hK hI 25 kC_25 (by omega) (by omega) d_En_tryStep_92 (fun z168 hz168a hz168b => ?_)
      refine lv_aload_n hx hb d_En_tryStep_93 rfl (lv_at hl 0 rfl) ?_
      refine sn_iconst hx hb d_En_tryStep_94 (by decide) (fun z169 hz169 => ?_)
      refine sv_ialdr hx hb hK hI 25 kC_25 (by omega) (by omega) d_En_tryStep_95 (fun z170 hz170a hz170b => ?_)
      refine tz_call (A1 := ga (adC a) H.size) (tz_runV (C := "StoryMachine$Engine") (As := [.int z168, .int z170]) (rest := []) ⟨hx, hb, hml, hown, hts⟩ (c_En_doSecond l hfl dC dI cI cJ a H.size t_he49 dp t_co50 t_li51 t_op52 wd tl lc t_fo53 sf lf nf z168 z170 c54 (by omega) (by omega) (by omega) (by omega)) (tx_cb (n := 2) hts rfl rfl ⟨Nat.le_of_ble_eq_true rfl, Nat.le_of_ble_eq_true rfl⟩ (tx_code.of (hts _ mw_794)) (hts _ mw_6) (by decide +kernel) (hts _ mw_791)) (hts _ mw_793) (hts _ ms_En_doSecond) ⟨tz_blind, sv_recv (q0 := 5) hts in_En hK hI kC_5 rfl, fun U hU hW => ⟨rfl, by rw [hU], by rw [hU]; exact hI.1, va_K.moved hW.alike hK, hst _ _ hI.2 U hU hW⟩⟩ rfl rfl hl.1 rfl (lv_room (Nat.le_of_ble_eq_true rfl)) d_En_tryStep_96 ⟨Nat.le_of_ble_eq_true rfl, Nat.le_of_ble_eq_true rfl⟩) hI.2 (fun q _ h => ga_sub hAC hA0 hI.2 q h) (ga_sub hAC hA0 hI.2) (fun v t H1 locs1 ht hWt hpost _ _ hS => ?_) (fun x t H1 locs1 ht hWt hpost _ _ hS => ?_)
      · rcases hpost.1 _ rfl with ⟨t_he171, t_dp172, hv, c173, hI1⟩
        cases hv
        have hI : sI (dC, dI) vcl cI cJ (gsC a t_he171 t_dp172 t_co50 t_li51 t_op52 wd tl lc t_fo53 sf lf nf) A s.heap H1 locs1 := ⟨by rw [← ht]; exact hI1, hS⟩
        obtain ⟨⟨o174, o175⟩, ⟨o176, o177⟩, -, -, -, -, -, -, -, -, -, -⟩ := id c173
        clear hpost hI1 hS ht hWt
        revert hI; generalize H1 = H; generalize locs1 = locs; intro hI
        refine lv_goto (tgt := 115) hx hb d_En_tryStep_99 (by decide) ?_
        exact j115 _ _ _ t_he171 t_dp172 t_co50 t_li51 t_op52 wd lc t_fo53 sf lf nf hI c173 (by omega) (by omega) (lv_sub hl [1, 0] rfl)
      · rcases hpost.2 _ rfl with ⟨hex, c178, c178_0, hI1⟩ | ⟨t_he179, t_dp180, hex, c181, hI1⟩ | ⟨t_he182, t_dp183, hex, c184, hI1⟩
        · have hI : sI (dC, dI) vcl cI cJ (gsC a t_he49 dp t_co50 t_li51 t_op52 wd tl lc t_fo53 sf lf nf) A s.heap H1 locs1 := ⟨by rw [← ht]; exact hI1, hS⟩
          obtain ⟨ce, hce, hcl, hvm⟩ := hex
          refine tx_catchN (own := "StoryMachine$Engine") (C := "java/lang/ArithmeticException") (X := "java/lang/ArithmeticException") [((8, 115, 118, 134), "java/lang/IllegalArgumentException"), ((8, 115, 126, 136), "java/lang/IllegalStateException")] (tx_tab B (hts _ mw_491)) (List.forall_mem_cons.mpr ⟨⟨by decide, by decide, hts _ mw_492, (hst _ [] va_S.rf s rfl (State.WarmedH.refl s)).1 _ _ (List.mem_of_getElem? (i := 5) rfl)⟩, List.forall_mem_cons.mpr ⟨⟨by decide, by decide, hts _ mw_493, (hst _ [] va_S.rf s rfl (State.WarmedH.refl s)).1 _ _ (List.mem_of_getElem? (i := 6) rfl)⟩, (fun _ h => by cases h)⟩⟩) (by decide) (by decide) hown (hts _ mw_494) (by rw [← ht]; exact hce) (fun k h => by rw [hvm] at h; cases h) (by rw [← hWt.alike.findClass]; exact hcl) (hts _ mw_842) ?_
          clear hpost hI1 hS ht hWt hce hcl hvm
          revert hI; generalize H1 = H; generalize locs1 = locs; intro hI
          refine lv_astore_n (lv' := [(2, .ref x), (1, .ref (a 25)), (0, .ref (a 5))]) hx hb d_En_tryStep_134 rfl hl (by decide) rfl (fun ls hl => ?_)
          refine lv_aload_n hx hb d_En_tryStep_135 rfl (lv_at hl 2 rfl) ?_
          refine sn_iconst hx hb d_En_tryStep_136 (by decide) (fun z185 hz185 => ?_)
          refine sv_put (C := "StoryMachine$Engine") (T := T_En) (N := 15) (ty := .boolean) hx hb hts in_En t_En tk_En nm_En hown hK (sh_in adC_map hAC) hI 5 kC_5 rfl 10 (by decide) (hts _ mw_271) rfl (by decide +kernel) (sn_bool (by omega) (by omega)).1 (sn_bool (by omega) (by omega)).2 (Nat.le_of_ble_eq_true rfl) (by omega) (by omega) pC_5_10 d_En_tryStep_137 (fun H locs hI => ?_)
          refine sn_iconst hx hb d_En_tryStep_140 (by decide) (fun z186 hz186 => ?_)
          subst hZ
          exact tz_ret (W.iret (v := z186) hx hb hr (fun t ht hW => ⟨⟨fun v9 hv9 => by cases hv9; exact (⟨z186, t_he49, dp, t_co50, t_li51, t_op52, wd, lc, t_fo53, sf, lf, nf, rfl, c178, by omega, by omega, by rw [ht]; exact hI.1⟩), fun x9 hx9 => (by cases hx9)⟩, hI.2.F ht⟩) hI.2.2.2 d_En_tryStep_141)
        · have hI : sI (dC, dI) vcl cI cJ (gsC a t_he179 t_dp180 t_co50 t_li51 t_op52 wd tl lc t_fo53 sf lf nf) A s.heap H1 locs1 := ⟨by rw [← ht]; exact hI1, hS⟩
          obtain ⟨⟨o187, o188⟩, ⟨o189, o190⟩, -, -, -, -, -, -, -, -, -, -⟩ := id c181
          obtain ⟨ce, hce, hcl, hvm⟩ := hex
          refine tx_catchN (own := "StoryMachine$Engine") (C := "java/lang/IllegalArgumentException") (X := "java/lang/IllegalArgumentException") [] (tx_tab B (hts _ mw_491)) ((fun _ h => by cases h)) (by decide) (by decide) hown (hts _ mw_492) (by rw [← ht]; exact hce) (fun k h => by rw [hvm] at h; cases h) (by rw [← hWt.alike.findClass]; exact hcl) (hts _ mw_356) ?_
          clear hpost hI1 hS ht hWt hce hcl hvm
          revert hI; generalize H1 = H; generalize locs1 = locs; intro hI
          refine lv_astore_n (lv' := [(2, .ref x), (1, .ref (a 25)), (0, .ref (a 5))]) hx hb d_En_tryStep_118 rfl hl (by decide) rfl (fun ls hl => ?_)
          refine lv_aload_n hx hb d_En_tryStep_119 rfl (lv_at hl 2 rfl) ?_
          refine sn_iconst hx hb d_En_tryStep_120 (by decide) (fun z191 hz191 => ?_)
          refine sv_put (C := "StoryMachine$Engine") (T := T_En) (N := 15) (ty := .boolean) hx hb hts in_En t_En tk_En nm_En hown hK (sh_in adC_map hAC) hI 5 kC_5 rfl 10 (by decide) (hts _ mw_271) rfl (by decide +kernel) (sn_bool (by omega) (by omega)).1 (sn_bool (by omega) (by omega)).2 (Nat.le_of_ble_eq_true rfl) (by omega) (by omega) pC_5_10 d_En_tryStep_121 (fun H locs hI => ?_)
          refine sn_iconst hx hb d_En_tryStep_124 (by decide) (fun z192 hz192 => ?_)
          subst hZ
          exact tz_ret (W.iret (v := z192) hx hb hr (fun t ht hW => ⟨⟨fun v9 hv9 => by cases hv9; exact (⟨z192, t_he179, t_dp180, t_co50, t_li51, t_op52, wd, lc, t_fo53, sf, lf, nf, rfl, c181, by omega, by omega, by rw [ht]; exact hI.1⟩), fun x9 hx9 => (by cases hx9)⟩, hI.2.F ht⟩) hI.2.2.2 d_En_tryStep_125)
        · have hI : sI (dC, dI) vcl cI cJ (gsC a t_he182 t_dp183 t_co50 t_li51 t_op52 wd tl lc t_fo53 sf lf nf) A s.heap H1 locs1 := ⟨by rw [← ht]; exact hI1, hS⟩
          obtain ⟨⟨o193, o194⟩, ⟨o195, o196⟩, -, -, -, -, -, -, -, -, -, -⟩ := id c184
          obtain ⟨ce, hce, hcl, hvm⟩ := hex
          refine tx_catchN (own := "StoryMachine$Engine") (C := "java/lang/IllegalStateException") (X := "java/lang/IllegalStateException") [((8, 115, 118, 134), "java/lang/IllegalArgumentException")] (tx_tab B (hts _ mw_491)) (List.forall_mem_cons.mpr ⟨⟨by decide, by decide, hts _ mw_492, (hst _ [] va_S.rf s rfl (State.WarmedH.refl s)).1 _ _ (List.mem_of_getElem? (i := 4) rfl)⟩, (fun _ h => by cases h)⟩) (by decide) (by decide) hown (hts _ mw_493) (by rw [← ht]; exact hce) (fun k h => by rw [hvm] at h; cases h) (by rw [← hWt.alike.findClass]; exact hcl) (hts _ mw_445) ?_
          clear hpost hI1 hS ht hWt hce hcl hvm
          revert hI; generalize H1 = H; generalize locs1 = locs; intro hI
          refine lv_astore_n (lv' := [(2, .ref x), (1, .ref (a 25)), (0, .ref (a 5))]) hx hb d_En_tryStep_126 rfl hl (by decide) rfl (fun ls hl => ?_)
          refine lv_aload_n hx hb d_En_tryStep_127 rfl (lv_at hl 2 rfl) ?_
          refine sn_iconst hx hb d_En_tryStep_128 (by decide) (fun z197 hz197 => ?_)
          refine sv_put (C := "StoryMachine$Engine") (T := T_En) (N := 15) (ty := .boolean) hx hb hts in_En t_En tk_En nm_En hown hK (sh_in adC_map hAC) hI 5 kC_5 rfl 10 (by decide) (hts _ mw_271) rfl (by decide +kernel) (sn_bool (by omega) (by omega)).1 (sn_bool (by omega) (by omega)).2 (Nat.le_of_ble_eq_true rfl) (by omega) (by omega) pC_5_10 d_En_tryStep_129 (fun H locs hI => ?_)
          refine sn_iconst hx hb d_En_tryStep_132 (by decide) (fun z198 hz198 => ?_)
          subst hZ
          exact tz_ret (W.iret (v := z198) hx hb hr (fun t ht hW => ⟨⟨fun v9 hv9 => by cases hv9; exact (⟨z198, t_he182, t_dp183, t_co50, t_li51, t_op52, wd, lc, t_fo53, sf, lf, nf, rfl, c184, by omega, by omega, by rw [ht]; exact hI.1⟩), fun x9 hx9 => (by cases hx9)⟩, hI.2.F ht⟩) hI.2.2.2 d_En_tryStep_133)
    exact lv_tableOut (tgt := 102) hx hb d_En_tryStep_44 (by omega) (by decide) w68
  · rcases hpost.2 _ rfl with ⟨t_he199, t_co200, t_li201, t_op202, t_fo203, hex, c204, hI1⟩ | ⟨t_he205, t_co206, t_li207, t_op208, hex, c209, hI1⟩ | ⟨t_li210, t_op211, hex, c212, c212_0, c212_1, c212_2, c212_3, hI1⟩
    · have hI : sI (dC, dI) vcl cI cJ (gsC a t_he199 dp t_co200 t_li201 t_op202 wd tl lc t_fo203 sf lf nf) A s.heap H1 locs1 := ⟨by rw [← ht]; exact hI1, hS⟩
      obtain ⟨⟨o213, o214⟩, -, ⟨o215, o216⟩, ⟨o217, o218⟩, ⟨o219, o220⟩, -, -, -, ⟨o221, o222⟩, o223, -, -⟩ := id c204
      obtain ⟨ce, hce, hcl, hvm⟩ := hex
      refine tx_catchN (own := "StoryMachine$Engine") (C := "java/lang/IllegalArgumentException") (X := "java/lang/IllegalArgumentException") [] (tx_tab B (hts _ mw_491)) ((fun _ h => by cases h)) (by decide) (by decide) hown (hts _ mw_492) (by rw [← ht]; exact hce) (fun k h => by rw [hvm] at h; cases h) (by rw [← hWt.alike.findClass]; exact hcl) (hts _ mw_356) ?_
      clear hpost hI1 hS ht hWt hce hcl hvm
      revert hI; generalize H1 = H; generalize locs1 = locs; intro hI
      refine lv_astore_n (lv' := [(2, .ref x), (1, .ref (a 25)), (0, .ref (a 5))]) hx hb d_En_tryStep_118 rfl hl (by decide) rfl (fun ls hl => ?_)
      refine lv_aload_n hx hb d_En_tryStep_119 rfl (lv_at hl 2 rfl) ?_
      refine sn_iconst hx hb d_En_tryStep_120 (by decide) (fun z224 hz224 => ?_)
      refine sv_put (C := "StoryMachine$Engine") (T := T_En) (N := 15) (ty := .boolean) hx hb hts in_En t_En tk_En nm_En hown hK (sh_in adC_map hAC) hI 5 kC_5 rfl 10 (by decide) (hts _ mw_271) rfl (by decide +kernel) (sn_bool (by omega) (by omega)).1 (sn_bool (by omega) (by omega)).2 (Nat.le_of_ble_eq_true rfl) (by omega) (by omega) pC_5_10 d_En_tryStep_121 (fun H locs hI => ?_)
      refine sn_iconst hx hb d_En_tryStep_124 (by decide) (fun z225 hz225 => ?_)
      subst hZ
      exact tz_ret (W.iret (v := z225) hx hb hr (fun t ht hW => ⟨⟨fun v9 hv9 => by cases hv9; exact (⟨z225, t_he199, dp, t_co200, t_li201, t_op202, wd, lc, t_fo203, sf, lf, nf, rfl, c204, by omega, by omega, by rw [ht]; exact hI.1⟩), fun x9 hx9 => (by cases hx9)⟩, hI.2.F ht⟩) hI.2.2.2 d_En_tryStep_125)
    · have hI : sI (dC, dI) vcl cI cJ (gsC a t_he205 dp t_co206 t_li207 t_op208 wd tl lc fo sf lf nf) A s.heap H1 locs1 := ⟨by rw [← ht]; exact hI1, hS⟩
      obtain ⟨⟨o226, o227⟩, -, ⟨o228, o229⟩, ⟨o230, o231⟩, ⟨o232, o233⟩, -, -, -, -, o234, -, -⟩ := id c209
      obtain ⟨ce, hce, hcl, hvm⟩ := hex
      refine tx_catchN (own := "StoryMachine$Engine") (C := "java/lang/IllegalStateException") (X := "java/lang/IllegalStateException") [((8, 115, 118, 134), "java/lang/IllegalArgumentException")] (tx_tab B (hts _ mw_491)) (List.forall_mem_cons.mpr ⟨⟨by decide, by decide, hts _ mw_492, (hst _ [] va_S.rf s rfl (State.WarmedH.refl s)).1 _ _ (List.mem_of_getElem? (i := 4) rfl)⟩, (fun _ h => by cases h)⟩) (by decide) (by decide) hown (hts _ mw_493) (by rw [← ht]; exact hce) (fun k h => by rw [hvm] at h; cases h) (by rw [← hWt.alike.findClass]; exact hcl) (hts _ mw_445) ?_
      clear hpost hI1 hS ht hWt hce hcl hvm
      revert hI; generalize H1 = H; generalize locs1 = locs; intro hI
      refine lv_astore_n (lv' := [(2, .ref x), (1, .ref (a 25)), (0, .ref (a 5))]) hx hb d_En_tryStep_126 rfl hl (by decide) rfl (fun ls hl => ?_)
      refine lv_aload_n hx hb d_En_tryStep_127 rfl (lv_at hl 2 rfl) ?_
      refine sn_iconst hx hb d_En_tryStep_128 (by decide) (fun z235 hz235 => ?_)
      refine sv_put (C := "StoryMachine$Engine") (T := T_En) (N := 15) (ty := .boolean) hx hb hts in_En t_En tk_En nm_En hown hK (sh_in adC_map hAC) hI 5 kC_5 rfl 10 (by decide) (hts _ mw_271) rfl (by decide +kernel) (sn_bool (by omega) (by omega)).1 (sn_bool (by omega) (by omega)).2 (Nat.le_of_ble_eq_true rfl) (by omega) (by omega) pC_5_10 d_En_tryStep_129 (fun H locs hI => ?_)
      refine sn_iconst hx hb d_En_tryStep_132 (by decide) (fun z236 hz236 => ?_)
      subst hZ
      exact tz_ret (W.iret (v := z236) hx hb hr (fun t ht hW => ⟨⟨fun v9 hv9 => by cases hv9; exact (⟨z236, t_he205, dp, t_co206, t_li207, t_op208, wd, lc, fo, sf, lf, nf, rfl, c209, by omega, by omega, by rw [ht]; exact hI.1⟩), fun x9 hx9 => (by cases hx9)⟩, hI.2.F ht⟩) hI.2.2.2 d_En_tryStep_133)
    · have hI : sI (dC, dI) vcl cI cJ (gsC a he dp co t_li210 t_op211 wd tl lc fo sf lf nf) A s.heap H1 locs1 := ⟨by rw [← ht]; exact hI1, hS⟩
      obtain ⟨-, -, -, ⟨o237, o238⟩, ⟨o239, o240⟩, -, -, -, -, o241, -, -⟩ := id c212
      obtain ⟨ce, hce, hcl, hvm⟩ := hex
      refine tx_catchN (own := "StoryMachine$Engine") (C := "java/lang/UnsupportedOperationException") (X := "java/lang/UnsupportedOperationException") [((8, 115, 118, 134), "java/lang/IllegalArgumentException"), ((8, 115, 126, 136), "java/lang/IllegalStateException"), ((8, 115, 134, 138), "java/lang/ArithmeticException")] (tx_tab B (hts _ mw_491)) (List.forall_mem_cons.mpr ⟨⟨by decide, by decide, hts _ mw_492, (hst _ [] va_S.rf s rfl (State.WarmedH.refl s)).1 _ _ (List.mem_of_getElem? (i := 7) rfl)⟩, List.forall_mem_cons.mpr ⟨⟨by decide, by decide, hts _ mw_493, (hst _ [] va_S.rf s rfl (State.WarmedH.refl s)).1 _ _ (List.mem_of_getElem? (i := 8) rfl)⟩, List.forall_mem_cons.mpr ⟨⟨by decide, by decide, hts _ mw_494, (hst _ [] va_S.rf s rfl (State.WarmedH.refl s)).1 _ _ (List.mem_of_getElem? (i := 9) rfl)⟩, (fun _ h => by cases h)⟩⟩⟩) (by decide) (by decide) hown (hts _ mw_495) (by rw [← ht]; exact hce) (fun k h => by rw [hvm] at h; cases h) (by rw [← hWt.alike.findClass]; exact hcl) (hts _ mw_514) ?_
      clear hpost hI1 hS ht hWt hce hcl hvm
      revert hI; generalize H1 = H; generalize locs1 = locs; intro hI
      refine lv_astore_n (lv' := [(2, .ref x), (1, .ref (a 25)), (0, .ref (a 5))]) hx hb d_En_tryStep_142 rfl hl (by decide) rfl (fun ls hl => ?_)
      refine sn_iconst hx hb d_En_tryStep_143 (by decide) (fun z242 hz242 => ?_)
      subst hZ
      exact tz_ret (W.iret (v := z242) hx hb hr (fun t ht hW => ⟨⟨fun v9 hv9 => by cases hv9; exact (⟨z242, he, dp, co, t_li210, t_op211, wd, lc, fo, sf, lf, nf, rfl, c212, by omega, by omega, by rw [ht]; exact hI.1⟩), fun x9 hx9 => (by cases hx9)⟩, hI.2.F ht⟩) hI.2.2.2 d_En_tryStep_144)
abbrev q_SM_packed (dC : Nat → ClassId) (dI : Nat → Nat → Nat) (cI cJ : ClassId) (a : Nat → Nat) (he dp co li op wd tl lc fo : Int) (sf lf nf : Nat → Int32) (y0 : Int64) (x2 : Int32) (x3 : Int32) : Outcome → State → Prop := fun o t => (∀ v, o = .returned v → ((∃ (z : Int32), v = some (.int z) ∧ okC he dp co li op wd tl lc fo sf lf nf ∧ (0 ≤ z.toInt) ∧ (z.toInt ≤ 255) ∧ sh_I (dC, dI) vcl cI cJ (gsC a he dp co li op wd tl lc fo sf lf nf) t.heap))) ∧ (∀ x, o = .threw x → (False))
def rm_SM_packed : Room := { frames := 0, cells := 0, slots := 0, locals := 0 }
set_option maxHeartbeats 4000000 in
set_option maxRecDepth 100000 in
theorem c_SM_packed (l : Launch) (hfl : l.flags = pinnedFlags ++ [noTraceFlag]) (dC : Nat → ClassId) (dI : Nat → Nat → Nat) (cI cJ : ClassId) (a : Nat → Nat) (sz : Nat) (he dp co li op wd tl lc fo : Int) (sf lf nf : Nat → Int32) (y0 : Int64) (x2 : Int32) (x3 : Int32) (hok : okC he dp co li op wd tl lc fo sf lf nf) (hp0 : 1 ≤ x2.toInt) (hp1 : x2.toInt ≤ 8) (hp2 : 0 ≤ x3.toInt) (hp3 : x3.toInt ≤ 7) : tz_Met l ⟨"StoryMachine", "packed", "(JII)I"⟩ tw_tbl rm_SM_packed (tzP (dC, dI) vcl cI cJ (gsC a he dp co li op wd tl lc fo sf lf nf) a (adC a) [.long y0, .int x2, .int x3] sz) (tq_Q (q_SM_packed dC dI cI cJ a he dp co li op wd tl lc fo sf lf nf y0 x2 x3) (ga (adC a) sz)) 0 0 0 0 (ga (adC a) sz) := by
  refine tz_ofW (cc := prog_1_method_14_code) (maxL := 4) (ret := (some .int)) (by decide) (tx_isM mw_421) ?_
  intro p e s m args below meth c s₁ B hml hv
  obtain ⟨rfl, hsz, hI0, hK, hst0⟩ := hv
  have hx := B.exec
  have hb := B.bytes
  have hr := B.returns
  have hts := atoms_spec (ws := tw_tbl) B.pre
  have hown : s.vm.findClass "StoryMachine" = some m.cls := findClass_of_methodNamed B.named
  have hlocks := B.notSynchronized
  subst hsz
  have hst := fun (H : Heap) (locs : List Loc) (hS : va_S (ga (adC a) s.heap.size) s.heap H locs) (U : State) (hU : U.heap = H) (hW : s.WarmedH U.vm) => zS_all adC_map hI0 hst0 hS hU hW
  have hAC : ∀ q ∈ adC a, ga (adC a) s.heap.size q := fun q h => Or.inl h
  have hA0 : ∀ q, s.heap.size ≤ q → ga (adC a) s.heap.size q := fun q h => Or.inr h
  have hI : sI (dC, dI) vcl cI cJ (gsC a he dp co li op wd tl lc fo sf lf nf) (ga (adC a) s.heap.size) s.heap s.heap [] := ⟨hI0, va_S.rf⟩
  clear hI0 hst0
  have hl := lv_entry ([.long y0, .int x2, .int x3]) (n := 4) (Nat.le_of_ble_eq_true rfl)
  rw [lg_entry_eq]
  generalize (lg_sl ([.long y0, .int x2, .int x3]) ++ List.replicate (4 - (lg_sl ([.long y0, .int x2, .int x3])).length) Slot.unset).toArray = ls at hl ⊢
  have hl : lv_has ls 4 [(0, .long y0), (2, .int x2), (3, .int x3)] := hl
  generalize hZ : tz_MQ below (tq_Q (q_SM_packed dC dI cI cJ a he dp co li op wd tl lc fo sf lf nf y0 x2 x3) (ga (adC a) s.heap.size)) ([.long y0, .int x2, .int x3] : List Value).toArray s 0 0 0 0 (ga (adC a) s.heap.size) = Z
  obtain ⟨A, hAe⟩ : ∃ A, A = ga (adC a) s.heap.size := ⟨_, rfl⟩
  rw [← hAe] at hst hAC hA0 hI hZ
  refine sv_start hI (fun H locs hI => ?_)
  obtain ⟨⟨o1, o2⟩, ⟨o3, o4⟩, ⟨o5, o6⟩, ⟨o7, o8⟩, ⟨o9, o10⟩, ⟨o11, o12⟩, ⟨o13, o14⟩, ⟨o15, o16⟩, ⟨o17, o18⟩, o19, -, -⟩ := id hok
  have gx2 := sn_rng x2
  have gx3 := sn_rng x3
  refine lv_lload_n hx hb d_SM_packed_0 rfl (lv_at hl 0 rfl) ?_
  refine sn_bipush hx hb d_SM_packed_1 (by decide) (fun z20 hz20 => ?_)
  refine lv_iload_n hx hb d_SM_packed_3 rfl (lv_at hl 1 rfl) ?_
  refine sn_iconst hx hb d_SM_packed_4 (by decide) (fun z21 hz21 => ?_)
  refine sn_isub hx hb d_SM_packed_5 (by omega) (by omega) (fun z22 hz22 => ?_)
  refine lv_iload_n hx hb d_SM_packed_6 rfl (lv_at hl 2 rfl) ?_
  refine sn_isub hx hb d_SM_packed_7 (by omega) (by omega) (fun z23 hz23 => ?_)
  refine sn_imulL (k := 8) hx hb d_SM_packed_8 (by omega) (by omega) (by omega) (fun z24 hz24 => ?_)
  refine lv_lshr hx hb d_SM_packed_9 rfl ?_
  refine lv_topl (fun y25 hy25 => ?_)
  refine sn_l2iT hx hb d_SM_packed_10 (fun z26 hz26a hz26b => ?_)
  refine sn_sipush hx hb d_SM_packed_11 (by decide) (fun z27 hz27 => ?_)
  refine sn_iand (k := 8) (M := 255) hx hb d_SM_packed_14 (by decide) (by decide) (by omega) (fun z28 hz28a hz28b hz28c => ?_)
  clear hz28c
  subst hZ
  exact tz_ret (W.iret (v := z28) hx hb hr (fun t ht hW => ⟨⟨fun v9 hv9 => by cases hv9; exact (⟨z28, rfl, hok, by omega, by omega, by rw [ht]; exact hI.1⟩), fun x9 hx9 => (by cases hx9)⟩, hI.2.F ht⟩) hI.2.2.2 d_SM_packed_15)
