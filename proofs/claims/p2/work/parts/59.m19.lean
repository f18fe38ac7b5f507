abbrev q_En_doNone (dC : Nat → ClassId) (dI : Nat → Nat → Nat) (cI cJ : ClassId) (a : Nat → Nat) (he dp co li op wd tl lc fo : Int) (sf lf nf : Nat → Int32) : Outcome → State → Prop := fun o t => (∀ v, o = .returned v → ((∃ (he_ dp_ : Int) (nf_ : Nat → Int32), v = none ∧ okC he_ dp_ co li op wd tl lc fo sf lf nf_ ∧ sh_I (dC, dI) vcl cI cJ (gsC a he_ dp_ co li op wd tl lc fo sf lf nf_) t.heap))) ∧ (∀ x, o = .threw x → ((∃ (he_ dp_ : Int), ta_Ex "java/lang/IllegalArgumentException" x t ∧ okC he_ dp_ co li op wd tl lc fo sf lf nf ∧ (op ≤ 8) ∧ sh_I (dC, dI) vcl cI cJ (gsC a he_ dp_ co li op wd tl lc fo sf lf nf) t.heap) ∨ (∃ (he_ dp_ : Int), ta_Ex "java/lang/IllegalStateException" x t ∧ okC he_ dp_ co li op wd tl lc fo sf lf nf ∧ (op ≤ 9) ∧ sh_I (dC, dI) vcl cI cJ (gsC a he_ dp_ co li op wd tl lc fo sf lf nf) t.heap)))
def rm_En_doNone : Room := { frames := 11, cells := 1, slots := 6, locals := 219 }
set_option maxHeartbeats 4000000 in
set_option maxRecDepth 100000 in
theorem c_En_doNone (l : Launch) (hfl : l.flags = pinnedFlags ++ [noTraceFlag]) (dC : Nat → ClassId) (dI : Nat → Nat → Nat) (cI cJ : ClassId) (a : Nat → Nat) (sz : Nat) (he dp co li op wd tl lc fo : Int) (sf lf nf : Nat → Int32) (hok : okC he dp co li op wd tl lc fo sf lf nf) : tz_Met l ⟨"StoryMachine$Engine", "doNone", "()V"⟩ tw_tbl rm_En_doNone (tzP (dC, dI) vcl cI cJ (gsC a he dp co li op wd tl lc fo sf lf nf) a (adC a) [.ref (a 5)] sz) (tq_Q (q_En_doNone dC dI cI cJ a he dp co li op wd tl lc fo sf lf nf) (ga (adC a) sz)) 0 0 1 6 (ga (adC a) sz) := by
  refine tz_ofW (cc := prog_4_method_4_code) (maxL := 1) (ret := none) (by decide) (tx_isM mw_599) ?_
  intro p e s m args below meth c s₁ B hml hv
  obtain ⟨rfl, hsz, hI0, hK, hst0⟩ := hv
  have hx := B.exec
  have hb := B.bytes
  have hr := B.returns
  have hts := atoms_spec (ws := tw_tbl) B.pre
  have hown : s.vm.findClass "StoryMachine$Engine" = some m.cls := findClass_of_methodNamed B.named
  have hlocks := B.notSynchronized
  subst hsz
  have hst := fun (H : Heap) (locs : List Loc) (hS : va_S (ga (adC a) s.heap.size) s.heap H locs) (U : State) (hU : U.heap = H) (hW : s.WarmedH U.vm) => zS_all adC_map hI0 hst0 hS hU hW
  have hAC : ∀ q ∈ adC a, ga (adC a) s.heap.size q := fun q h => Or.inl h
  have hA0 : ∀ q, s.heap.size ≤ q → ga (adC a) s.heap.size q := fun q h => Or.inr h
  have hI : sI (dC, dI) vcl cI cJ (gsC a he dp co li op wd tl lc fo sf lf nf) (ga (adC a) s.heap.size) s.heap s.heap [] := ⟨hI0, va_S.rf⟩
  clear hI0 hst0
  have hl := lv_entry ([.ref (a 5)]) (n := 1) (Nat.le_of_ble_eq_true rfl)
  rw [lg_entry_eq]
  generalize (lg_sl ([.ref (a 5)]) ++ List.replicate (1 - (lg_sl ([.ref (a 5)])).length) Slot.unset).toArray = ls at hl ⊢
  have hl : lv_has ls 1 [(0, .ref (a 5))] := hl
  generalize hZ : tz_MQ below (tq_Q (q_En_doNone dC dI cI cJ a he dp co li op wd tl lc fo sf lf nf) (ga (adC a) s.heap.size)) ([.ref (a 5)] : List Value).toArray s 0 0 1 6 (ga (adC a) s.heap.size) = Z
  obtain ⟨A, hAe⟩ : ∃ A, A = ga (adC a) s.heap.size := ⟨_, rfl⟩
  rw [← hAe] at hst hAC hA0 hI hZ
  refine sv_start hI (fun H locs hI => ?_)
  obtain ⟨⟨o1, o2⟩, ⟨o3, o4⟩, ⟨o5, o6⟩, ⟨o7, o8⟩, ⟨o9, o10⟩, ⟨o11, o12⟩, ⟨o13, o14⟩, ⟨o15, o16⟩, ⟨o17, o18⟩, o19, -, -⟩ := id hok
  refine lv_aload_n hx hb d_En_doNone_0 rfl (lv_at hl 0 rfl) ?_
  refine sv_getr (C := "StoryMachine$Engine") (T := T_En) (N := 15) hx hb hts in_En hown hK hI 5 kC_5 rfl 7 (by decide) (hts _ mw_268) rfl d_En_doNone_1 ?_
  refine sv_gete (C := "StoryMachine$Instruction") (T := T_In) (N := 11) hx hb hts in_In hown hK hI 19 kC_19 rfl 5 (by decide) (hts _ mw_227) rfl d_En_doNone_4 (fun z20 hz20 => ?_)
  have w21 : W p l e (headSpec tw_tbl rm_En_doNone).room s m ([.ref (a 5)] : List Value).toArray below meth c H locs 0 0 Z (F0 m 243 ls []) := by
    subst hZ
    exact tz_ret (W.vret hx hb hr (fun t ht hW => ⟨⟨fun v9 hv9 => by cases hv9; exact (⟨he, dp, nf, rfl, hok, by rw [ht]; exact hI.1⟩), fun x9 hx9 => (by cases hx9)⟩, hI.2.F ht⟩) hI.2.2.2 d_En_doNone_243)
  by_cases b22 : z20.toInt = 0
  · refine sn_tin (v := 0) (off := 61) (tgt := 68) hx hb d_En_doNone_7 b22 (by decide) (by decide) (by decide) (by decide) ?_
    refine lv_aload_n hx hb d_En_doNone_68 rfl (lv_at hl 0 rfl) ?_
    refine sn_iconst hx hb d_En_doNone_69 (by decide) (fun z23 hz23 => ?_)
    refine tz_call (A1 := ga (adC a) H.size) (tz_runV (C := "StoryMachine$Engine") (As := [.int z23]) (rest := []) ⟨hx, hb, hml, hown, hts⟩ (c_En_returnWith l hfl dC dI cI cJ a H.size he dp co li op wd tl lc fo sf lf nf z23 hok) (tx_cb (n := 1) hts rfl rfl ⟨Nat.le_of_ble_eq_true rfl, Nat.le_of_ble_eq_true rfl⟩ (tx_code.of (hts _ mw_603)) (hts _ mw_6) (by decide +kernel) (hts _ mw_600)) (hts _ mw_602) (hts _ ms_En_returnWith) ⟨tz_blind, sv_recv (q0 := 5) hts in_En hK hI kC_5 rfl, fun U hU hW => ⟨rfl, by rw [hU], by rw [hU]; exact hI.1, va_K.moved hW.alike hK, hst _ _ hI.2 U hU hW⟩⟩ rfl rfl hl.1 rfl (lv_room (Nat.le_of_ble_eq_true rfl)) d_En_doNone_70 ⟨Nat.le_of_ble_eq_true rfl, Nat.le_of_ble_eq_true rfl⟩) hI.2 (fun q _ h => ga_sub hAC hA0 hI.2 q h) (ga_sub hAC hA0 hI.2) (fun v t H1 locs1 ht hWt hpost _ _ hS => ?_) (fun x t H1 locs1 ht hWt hpost _ _ hS => ?_)
    · rcases hpost.1 _ rfl with ⟨t_he24, t_dp25, hv, c26, c26_0, c26_1, hI1⟩
      cases hv
      have hI : sI (dC, dI) vcl cI cJ (gsC a t_he24 t_dp25 co li op wd tl lc fo sf lf nf) A s.heap H1 locs1 := ⟨by rw [← ht]; exact hI1, hS⟩
      obtain ⟨⟨o27, o28⟩, ⟨o29, o30⟩, -, -, -, -, -, -, -, -, -, -⟩ := id c26
      clear hpost hI1 hS ht hWt
      revert hI; generalize H1 = H; generalize locs1 = locs; intro hI
      refine lv_goto (tgt := 243) hx hb d_En_doNone_73 (by decide) ?_
      subst hZ
      exact tz_ret (W.vret hx hb hr (fun t ht hW => ⟨⟨fun v9 hv9 => by cases hv9; exact (⟨t_he24, t_dp25, nf, rfl, c26, by rw [ht]; exact hI.1⟩), fun x9 hx9 => (by cases hx9)⟩, hI.2.F ht⟩) hI.2.2.2 d_En_doNone_243)
    · rcases hpost.2 _ rfl with ⟨t_he31, t_dp32, hex, c33, c33_0, hI1⟩ | ⟨t_he34, t_dp35, hex, c36, c36_0, c36_1, hI1⟩
      · have hI : sI (dC, dI) vcl cI cJ (gsC a t_he31 t_dp32 co li op wd tl lc fo sf lf nf) A s.heap H1 locs1 := ⟨by rw [← ht]; exact hI1, hS⟩
        obtain ⟨⟨o37, o38⟩, ⟨o39, o40⟩, -, -, -, -, -, -, -, -, -, -⟩ := id c33
        refine tz_widen (k := 1) (n := 6) (Nat.le_of_ble_eq_true rfl) (Nat.le_of_ble_eq_true rfl) ?_
        subst hZ
        exact tz_leave (tx_noH B (hts _ mw_599) _) (fun t9 ht9 hW9 => ⟨⟨fun v9 hv9 => (by cases hv9), fun x9 hx9 => by cases hx9; exact (Or.inl ⟨t_he31, t_dp32, ta_exm hex ht ht9 hWt hW9, c33, by omega, by rw [ht9]; exact hI.1⟩)⟩, hI.2.F ht9⟩) hI.2.2.2 hlocks
      · have hI : sI (dC, dI) vcl cI cJ (gsC a t_he34 t_dp35 co li op wd tl lc fo sf lf nf) A s.heap H1 locs1 := ⟨by rw [← ht]; exact hI1, hS⟩
        obtain ⟨⟨o41, o42⟩, ⟨o43, o44⟩, -, -, -, -, -, -, -, -, -, -⟩ := id c36
        refine tz_widen (k := 1) (n := 6) (Nat.le_of_ble_eq_true rfl) (Nat.le_of_ble_eq_true rfl) ?_
        subst hZ
        exact tz_leave (tx_noH B (hts _ mw_599) _) (fun t9 ht9 hW9 => ⟨⟨fun v9 hv9 => (by cases hv9), fun x9 hx9 => by cases hx9; exact (Or.inr (⟨t_he34, t_dp35, ta_exm hex ht ht9 hWt hW9, c36, by omega, by rw [ht9]; exact hI.1⟩))⟩, hI.2.F ht9⟩) hI.2.2.2 hlocks
  by_cases b45 : z20.toInt = 1
  · refine sn_tin (v := 1) (off := 69) (tgt := 76) hx hb d_En_doNone_7 b45 (by decide) (by decide) (by decide) (by decide) ?_
    refine lv_aload_n hx hb d_En_doNone_76 rfl (lv_at hl 0 rfl) ?_
    refine sn_iconst hx hb d_En_doNone_77 (by decide) (fun z46 hz46 => ?_)
    refine tz_call (A1 := ga (adC a) H.size) (tz_runV (C := "StoryMachine$Engine") (As := [.int z46]) (rest := []) ⟨hx, hb, hml, hown, hts⟩ (c_En_returnWith l hfl dC dI cI cJ a H.size he dp co li op wd tl lc fo sf lf nf z46 hok) (tx_cb (n := 1) hts rfl rfl ⟨Nat.le_of_ble_eq_true rfl, Nat.le_of_ble_eq_true rfl⟩ (tx_code.of (hts _ mw_603)) (hts _ mw_6) (by decide +kernel) (hts _ mw_600)) (hts _ mw_602) (hts _ ms_En_returnWith) ⟨tz_blind, sv_recv (q0 := 5) hts in_En hK hI kC_5 rfl, fun U hU hW => ⟨rfl, by rw [hU], by rw [hU]; exact hI.1, va_K.moved hW.alike hK, hst _ _ hI.2 U hU hW⟩⟩ rfl rfl hl.1 rfl (lv_room (Nat.le_of_ble_eq_true rfl)) d_En_doNone_78 ⟨Nat.le_of_ble_eq_true rfl, Nat.le_of_ble_eq_true rfl⟩) hI.2 (fun q _ h => ga_sub hAC hA0 hI.2 q h) (ga_sub hAC hA0 hI.2) (fun v t H1 locs1 ht hWt hpost _ _ hS => ?_) (fun x t H1 locs1 ht hWt hpost _ _ hS => ?_)
    · rcases hpost.1 _ rfl with ⟨t_he47, t_dp48, hv, c49, c49_0, c49_1, hI1⟩
      cases hv
      have hI : sI (dC, dI) vcl cI cJ (gsC a t_he47 t_dp48 co li op wd tl lc fo sf lf nf) A s.heap H1 locs1 := ⟨by rw [← ht]; exact hI1, hS⟩
      obtain ⟨⟨o50, o51⟩, ⟨o52, o53⟩, -, -, -, -, -, -, -, -, -, -⟩ := id c49
      clear hpost hI1 hS ht hWt
      revert hI; generalize H1 = H; generalize locs1 = locs; intro hI
      refine lv_goto (tgt := 243) hx hb d_En_doNone_81 (by decide) ?_
      subst hZ
      exact tz_ret (W.vret hx hb hr (fun t ht hW => ⟨⟨fun v9 hv9 => by cases hv9; exact (⟨t_he47, t_dp48, nf, rfl, c49, by rw [ht]; exact hI.1⟩), fun x9 hx9 => (by cases hx9)⟩, hI.2.F ht⟩) hI.2.2.2 d_En_doNone_243)
    · rcases hpost.2 _ rfl with ⟨t_he54, t_dp55, hex, c56, c56_0, hI1⟩ | ⟨t_he57, t_dp58, hex, c59, c59_0, c59_1, hI1⟩
      · have hI : sI (dC, dI) vcl cI cJ (gsC a t_he54 t_dp55 co li op wd tl lc fo sf lf nf) A s.heap H1 locs1 := ⟨by rw [← ht]; exact hI1, hS⟩
        obtain ⟨⟨o60, o61⟩, ⟨o62, o63⟩, -, -, -, -, -, -, -, -, -, -⟩ := id c56
        refine tz_widen (k := 1) (n := 6) (Nat.le_of_ble_eq_true rfl) (Nat.le_of_ble_eq_true rfl) ?_
        subst hZ
        exact tz_leave (tx_noH B (hts _ mw_599) _) (fun t9 ht9 hW9 => ⟨⟨fun v9 hv9 => (by cases hv9), fun x9 hx9 => by cases hx9; exact (Or.inl ⟨t_he54, t_dp55, ta_exm hex ht ht9 hWt hW9, c56, by omega, by rw [ht9]; exact hI.1⟩)⟩, hI.2.F ht9⟩) hI.2.2.2 hlocks
      · have hI : sI (dC, dI) vcl cI cJ (gsC a t_he57 t_dp58 co li op wd tl lc fo sf lf nf) A s.heap H1 locs1 := ⟨by rw [← ht]; exact hI1, hS⟩
        obtain ⟨⟨o64, o65⟩, ⟨o66, o67⟩, -, -, -, -, -, -, -, -, -, -⟩ := id c59
        refine tz_widen (k := 1) (n := 6) (Nat.le_of_ble_eq_true rfl) (Nat.le_of_ble_eq_true rfl) ?_
        subst hZ
        exact tz_leave (tx_noH B (hts _ mw_599) _) (fun t9 ht9 hW9 => ⟨⟨fun v9 hv9 => (by cases hv9), fun x9 hx9 => by cases hx9; exact (Or.inr (⟨t_he57, t_dp58, ta_exm hex ht ht9 hWt hW9, c59, by omega, by rw [ht9]; exact hI.1⟩))⟩, hI.2.F ht9⟩) hI.2.2.2 hlocks
  by_cases b68 : z20.toInt = 2
  · refine sn_tin (v := 2) (off := 77) (tgt := 84) hx hb d_En_doNone_7 b68 (by decide) (by decide) (by decide) (by decide) ?_
    refine lv_aload_n hx hb d_En_doNone_84 rfl (lv_at hl 0 rfl) ?_
    refine lv_aload_n hx hb d_En_doNone_85 rfl (lv_at hl 0 rfl) ?_
    refine sv_getr (C := "StoryMachine$Engine") (T := T_En) (N := 15) hx hb hts in_En hown hK hI 5 kC_5 rfl 3 (by decide) (hts _ mw_264) rfl d_En_doNone_86 ?_
    refine lv_aload_n hx hb d_En_doNone_89 rfl (lv_at hl 0 rfl) ?_
    refine sv_get (C := "StoryMachine$Engine") (T := T_En) (N := 15) hx hb hts in_En hown hK hI 5 kC_5 rfl 13 (by decide) (hts _ mw_277) rfl d_En_doNone_90 (fun z69 hz69a hz69b => ?_)
    refine tz_call (A1 := ga (adC a) H.size) (tz_runV (C := "StoryMachine$Printer") (As := [.int z69]) (rest := [.ref (a 5)]) ⟨hx, hb, hml, hown, hts⟩ (c_Pr_putText l hfl dC dI cI cJ a H.size he dp co li op wd tl lc fo sf lf nf z69 hok) (tx_cb (n := 1) hts rfl rfl ⟨Nat.le_of_ble_eq_true rfl, Nat.le_of_ble_eq_true rfl⟩ (tx_code.of (hts _ mw_644)) (hts _ mw_5) (by decide +kernel) (hts _ mw_641)) (hts _ mw_642) (hts _ mw_643) ⟨tz_blind, sv_recv (q0 := 4) hts in_Pr hK hI kC_4 rfl, fun U hU hW => ⟨rfl, by rw [hU], by rw [hU]; exact hI.1, va_K.moved hW.alike hK, hst _ _ hI.2 U hU hW⟩⟩ rfl rfl hl.1 rfl (lv_room (Nat.le_of_ble_eq_true rfl)) d_En_doNone_93 ⟨Nat.le_of_ble_eq_true rfl, Nat.le_of_ble_eq_true rfl⟩) hI.2 (fun q _ h => ga_sub hAC hA0 hI.2 q h) (ga_sub hAC hA0 hI.2) (fun v t H1 locs1 ht hWt hpost _ _ hS => ?_) (fun x t H1 locs1 ht hWt hpost _ _ hS => ?_)
    · rcases hpost.1 _ rfl with ⟨z70, hv, c71, c71_0, c71_1, hI1⟩
      cases hv
      have hI : sI (dC, dI) vcl cI cJ (gsC a he dp co li op wd tl lc fo sf lf nf) A s.heap H1 locs1 := ⟨by rw [← ht]; exact hI1, hS⟩
      clear hpost hI1 hS ht hWt
      revert hI; generalize H1 = H; generalize locs1 = locs; intro hI
      refine sv_put (C := "StoryMachine$Engine") (T := T_En) (N := 15) (ty := .int) hx hb hts in_En t_En tk_En nm_En hown hK (sh_in adC_map hAC) hI 5 kC_5 rfl 13 (by decide) (hts _ mw_277) rfl (by decide +kernel) rfl rfl (Nat.le_of_ble_eq_true rfl) (by omega) (by omega) pC_5_13 d_En_doNone_96 (fun H locs hI => ?_)
      refine lv_goto (tgt := 243) hx hb d_En_doNone_99 (by decide) ?_
      subst hZ
      exact tz_ret (W.vret hx hb hr (fun t ht hW => ⟨⟨fun v9 hv9 => by cases hv9; exact (⟨he, dp, nf, rfl, c71, by rw [ht]; exact hI.1⟩), fun x9 hx9 => (by cases hx9)⟩, hI.2.F ht⟩) hI.2.2.2 d_En_doNone_243)
    · rcases hpost.2 _ rfl with ⟨hex, c72, hI1⟩
      have hI : sI (dC, dI) vcl cI cJ (gsC a he dp co li op wd tl lc fo sf lf nf) A s.heap H1 locs1 := ⟨by rw [← ht]; exact hI1, hS⟩
      refine tz_widen (k := 1) (n := 6) (Nat.le_of_ble_eq_true rfl) (Nat.le_of_ble_eq_true rfl) ?_
      subst hZ
      exact tz_leave (tx_noH B (hts _ mw_599) _) (fun t9 ht9 hW9 => ⟨⟨fun v9 hv9 => (by cases hv9), fun x9 hx9 => by cases hx9; exact (Or.inl ⟨he, dp, ta_exm hex ht ht9 hWt hW9, c72, by omega, by rw [ht9]; exact hI.1⟩)⟩, hI.2.F ht9⟩) hI.2.2.2 hlocks
  by_cases b73 : z20.toInt = 3
  · refine sn_tin (v := 3) (off := 95) (tgt := 102) hx hb d_En_doNone_7 b73 (by decide) (by decide) (by decide) (by decide) ?_
    refine lv_aload_n hx hb d_En_doNone_102 rfl (lv_at hl 0 rfl) ?_
    refine sv_getr (C := "StoryMachine$Engine") (T := T_En) (N := 15) hx hb hts in_En hown hK hI 5 kC_5 rfl 3 (by decide) (hts _ mw_264) rfl d_En_doNone_103 ?_
    refine lv_aload_n hx hb d_En_doNone_106 rfl (lv_at hl 0 rfl) ?_
    refine sv_get (C := "StoryMachine$Engine") (T := T_En) (N := 15) hx hb hts in_En hown hK hI 5 kC_5 rfl 13 (by decide) (hts _ mw_277) rfl d_En_doNone_107 (fun z74 hz74a hz74b => ?_)
    refine tz_call (A1 := ga (adC a) H.size) (tz_runV (C := "StoryMachine$Printer") (As := [.int z74]) (rest := []) ⟨hx, hb, hml, hown, hts⟩ (c_Pr_putText l hfl dC dI cI cJ a H.size he dp co li op wd tl lc fo sf lf nf z74 hok) (tx_cb (n := 1) hts rfl rfl ⟨Nat.le_of_ble_eq_true rfl, Nat.le_of_ble_eq_true rfl⟩ (tx_code.of (hts _ mw_644)) (hts _ mw_5) (by decide +kernel) (hts _ mw_641)) (hts _ mw_642) (hts _ mw_643) ⟨tz_blind, sv_recv (q0 := 4) hts in_Pr hK hI kC_4 rfl, fun U hU hW => ⟨rfl, by rw [hU], by rw [hU]; exact hI.1, va_K.moved hW.alike hK, hst _ _ hI.2 U hU hW⟩⟩ rfl rfl hl.1 rfl (lv_room (Nat.le_of_ble_eq_true rfl)) d_En_doNone_110 ⟨Nat.le_of_ble_eq_true rfl, Nat.le_of_ble_eq_true rfl⟩) hI.2 (fun q _ h => ga_sub hAC hA0 hI.2 q h) (ga_sub hAC hA0 hI.2) (fun v t H1 locs1 ht hWt hpost _ _ hS => ?_) (fun x t H1 locs1 ht hWt hpost _ _ hS => ?_)
    · rcases hpost.1 _ rfl with ⟨z75, hv, c76, c76_0, c76_1, hI1⟩
      cases hv
      have hI : sI (dC, dI) vcl cI cJ (gsC a he dp co li op wd tl lc fo sf lf nf) A s.heap H1 locs1 := ⟨by rw [← ht]; exact hI1, hS⟩
      clear hpost hI1 hS ht hWt
      revert hI; generalize H1 = H; generalize locs1 = locs; intro hI
      refine lv_pop hx hb d_En_doNone_113 rfl ?_
      refine lv_aload_n hx hb d_En_doNone_114 rfl (lv_at hl 0 rfl) ?_
      refine sv_getr (C := "StoryMachine$Engine") (T := T_En) (N := 15) hx hb hts in_En hown hK hI 5 kC_5 rfl 3 (by decide) (hts _ mw_264) rfl d_En_doNone_115 ?_
      refine sn_bipush hx hb d_En_doNone_118 (by decide) (fun z77 hz77 => ?_)
      refine tz_call (A1 := ga (adC a) H.size) (tz_runV (C := "StoryMachine$Printer") (As := [.int z77]) (rest := []) ⟨hx, hb, hml, hown, hts⟩ (c_Pr_put l hfl dC dI cI cJ a H.size he dp co li op wd tl lc fo sf lf nf z77 c76) (tx_cb (n := 1) hts rfl rfl ⟨Nat.le_of_ble_eq_true rfl, Nat.le_of_ble_eq_true rfl⟩ (tx_code.of (hts _ mw_653)) (hts _ mw_5) (by decide +kernel) (hts _ mw_702)) (hts _ mw_651) (hts _ mw_652) ⟨tz_blind, sv_recv (q0 := 4) hts in_Pr hK hI kC_4 rfl, fun U hU hW => ⟨rfl, by rw [hU], by rw [hU]; exact hI.1, va_K.moved hW.alike hK, hst _ _ hI.2 U hU hW⟩⟩ rfl rfl hl.1 rfl (lv_room (Nat.le_of_ble_eq_true rfl)) d_En_doNone_120 ⟨Nat.le_of_ble_eq_true rfl, Nat.le_of_ble_eq_true rfl⟩) hI.2 (fun q _ h => ga_sub hAC hA0 hI.2 q h) (ga_sub hAC hA0 hI.2) (fun v t H1 locs1 ht hWt hpost _ _ hS => ?_) (fun x t H1 locs1 ht hWt hpost _ _ hS => (hpost.2 x rfl).elim)
      rcases hpost.1 _ rfl with ⟨hv, c78, hI1⟩
      cases hv
      have hI : sI (dC, dI) vcl cI cJ (gsC a he dp co li op wd tl lc fo sf lf nf) A s.heap H1 locs1 := ⟨by rw [← ht]; exact hI1, hS⟩
      clear hpost hI1 hS ht hWt
      revert hI; generalize H1 = H; generalize locs1 = locs; intro hI
      refine lv_aload_n hx hb d_En_doNone_123 rfl (lv_at hl 0 rfl) ?_
      refine sn_iconst hx hb d_En_doNone_124 (by decide) (fun z79 hz79 => ?_)
      refine tz_call (A1 := ga (adC a) H.size) (tz_runV (C := "StoryMachine$Engine") (As := [.int z79]) (rest := []) ⟨hx, hb, hml, hown, hts⟩ (c_En_returnWith l hfl dC dI cI cJ a H.size he dp co li op wd tl lc fo sf lf nf z79 c78) (tx_cb (n := 1) hts rfl rfl ⟨Nat.le_of_ble_eq_true rfl, Nat.le_of_ble_eq_true rfl⟩ (tx_code.of (hts _ mw_603)) (hts _ mw_6) (by decide +kernel) (hts _ mw_600)) (hts _ mw_602) (hts _ ms_En_returnWith) ⟨tz_blind, sv_recv (q0 := 5) hts in_En hK hI kC_5 rfl, fun U hU hW => ⟨rfl, by rw [hU], by rw [hU]; exact hI.1, va_K.moved hW.alike hK, hst _ _ hI.2 U hU hW⟩⟩ rfl rfl hl.1 rfl (lv_room (Nat.le_of_ble_eq_true rfl)) d_En_doNone_125 ⟨Nat.le_of_ble_eq_true rfl, Nat.le_of_ble_eq_true rfl⟩) hI.2 (fun q _ h => ga_sub hAC hA0 hI.2 q h) (ga_sub hAC hA0 hI.2) (fun v t H1 locs1 ht hWt hpost _ _ hS => ?_) (fun x t H1 locs1 ht hWt hpost _ _ hS => ?_)
      · rcases hpost.1 _ rfl with ⟨t_he80, t_dp81, hv, c82, c82_0, c82_1, hI1⟩
        cases hv
        have hI : sI (dC, dI) vcl cI cJ (gsC a t_he80 t_dp81 co li op wd tl lc fo sf lf nf) A s.heap H1 locs1 := ⟨by rw [← ht]; exact hI1, hS⟩
        obtain ⟨⟨o83, o84⟩, ⟨o85, o86⟩, -, -, -, -, -, -, -, -, -, -⟩ := id c82
        clear hpost hI1 hS ht hWt
        revert hI; generalize H1 = H; generalize locs1 = locs; intro hI
        refine lv_goto (tgt := 243) hx hb d_En_doNone_128 (by decide) ?_
        subst hZ
        exact tz_ret (W.vret hx hb hr (fun t ht hW => ⟨⟨fun v9 hv9 => by cases hv9; exact (⟨t_he80, t_dp81, nf, rfl, c82, by rw [ht]; exact hI.1⟩), fun x9 hx9 => (by cases hx9)⟩, hI.2.F ht⟩) hI.2.2.2 d_En_doNone_243)
      · rcases hpost.2 _ rfl with ⟨t_he87, t_dp88, hex, c89, c89_0, hI1⟩ | ⟨t_he90, t_dp91, hex, c92, c92_0, c92_1, hI1⟩
        · have hI : sI (dC, dI) vcl cI cJ (gsC a t_he87 t_dp88 co li op wd tl lc fo sf lf nf) A s.heap H1 locs1 := ⟨by rw [← ht]; exact hI1, hS⟩
          obtain ⟨⟨o93, o94⟩, ⟨o95, o96⟩, -, -, -, -, -, -, -, -, -, -⟩ := id c89
          refine tz_widen (k := 1) (n := 6) (Nat.le_of_ble_eq_true rfl) (Nat.le_of_ble_eq_true rfl) ?_
          subst hZ
          exact tz_leave (tx_noH B (hts _ mw_599) _) (fun t9 ht9 hW9 => ⟨⟨fun v9 hv9 => (by cases hv9), fun x9 hx9 => by cases hx9; exact (Or.inl ⟨t_he87, t_dp88, ta_exm hex ht ht9 hWt hW9, c89, by omega, by rw [ht9]; exact hI.1⟩)⟩, hI.2.F ht9⟩) hI.2.2.2 hlocks
        · have hI : sI (dC, dI) vcl cI cJ (gsC a t_he90 t_dp91 co li op wd tl lc fo sf lf nf) A s.heap H1 locs1 := ⟨by rw [← ht]; exact hI1, hS⟩
          obtain ⟨⟨o97, o98⟩, ⟨o99, o100⟩, -, -, -, -, -, -, -, -, -, -⟩ := id c92
          refine tz_widen (k := 1) (n := 6) (Nat.le_of_ble_eq_true rfl) (Nat.le_of_ble_eq_true rfl) ?_
          subst hZ
          exact tz_leave (tx_noH B (hts _ mw_599) _) (fun t9 ht9 hW9 => ⟨⟨fun v9 hv9 => (by cases hv9), fun x9 hx9 => by cases hx9; exact (Or.inr (⟨t_he90, t_dp91, ta_exm hex ht ht9 hWt hW9, c92, by omega, by rw [ht9]; exact hI.1⟩))⟩, hI.2.F ht9⟩) hI.2.2.2 hlocks
    · rcases hpost.2 _ rfl with ⟨hex, c101, hI1⟩
      have hI : sI (dC, dI) vcl cI cJ (gsC a he dp co li op wd tl lc fo sf lf nf) A s.heap H1 locs1 := ⟨by rw [← ht]; exact hI1, hS⟩
      refine tz_widen (k := 1) (n := 6) (Nat.le_of_ble_eq_true rfl) (Nat.le_of_ble_eq_true rfl) ?_
      subst hZ
      exact tz_leave (tx_noH B (hts _ mw_599) _) (fun t9 ht9 hW9 => ⟨⟨fun v9 hv9 => (by cases hv9), fun x9 hx9 => by cases hx9; exact (Or.inl ⟨he, dp, ta_exm hex ht ht9 hWt hW9, c101, by omega, by rw [ht9]; exact hI.1⟩)⟩, hI.2.F ht9⟩) hI.2.2.2 hlocks
  by_cases b102 : z20.toInt = 5
  · refine sn_tin (v := 5) (off := 124) (tgt := 131) hx hb d_En_doNone_7 b102 (by decide) (by decide) (by decide) (by decide) ?_
    refine lv_aload_n hx hb d_En_doNone_131 rfl (lv_at hl 0 rfl) ?_
    refine sn_iconst hx hb d_En_doNone_132 (by decide) (fun z103 hz103 => ?_)
    refine tz_call (A1 := ga (adC a) H.size) (tz_runV (C := "StoryMachine$Engine") (As := [.int z103]) (rest := []) ⟨hx, hb, hml, hown, hts⟩ (c_En_branch l hfl dC dI cI cJ a H.size he dp co li op wd tl lc fo sf lf nf z103 hok (by omega) (by omega)) (tx_cb (n := 1) hts rfl rfl ⟨Nat.le_of_ble_eq_true rfl, Nat.le_of_ble_eq_true rfl⟩ (tx_code.of (hts _ mw_706)) (hts _ mw_6) (by decide +kernel) (hts _ mw_703)) (hts _ mw_705) (hts _ ms_En_branch) ⟨tz_blind, sv_recv (q0 := 5) hts in_En hK hI kC_5 rfl, fun U hU hW => ⟨rfl, by rw [hU], by rw [hU]; exact hI.1, va_K.moved hW.alike hK, hst _ _ hI.2 U hU hW⟩⟩ rfl rfl hl.1 rfl (lv_room (Nat.le_of_ble_eq_true rfl)) d_En_doNone_133 ⟨Nat.le_of_ble_eq_true rfl, Nat.le_of_ble_eq_true rfl⟩) hI.2 (fun q _ h => ga_sub hAC hA0 hI.2 q h) (ga_sub hAC hA0 hI.2) (fun v t H1 locs1 ht hWt hpost _ _ hS => ?_) (fun x t H1 locs1 ht hWt hpost _ _ hS => ?_)
    · rcases hpost.1 _ rfl with ⟨t_he104, t_dp105, hv, c106, hI1⟩
      cases hv
      have hI : sI (dC, dI) vcl cI cJ (gsC a t_he104 t_dp105 co li op wd tl lc fo sf lf nf) A s.heap H1 locs1 := ⟨by rw [← ht]; exact hI1, hS⟩
      obtain ⟨⟨o107, o108⟩, ⟨o109, o110⟩, -, -, -, -, -, -, -, -, -, -⟩ := id c106
      clear hpost hI1 hS ht hWt
      revert hI; generalize H1 = H; generalize locs1 = locs; intro hI
      refine lv_aload_n hx hb d_En_doNone_136 rfl (lv_at hl 0 rfl) ?_
      refine sv_getr (C := "StoryMachine$Engine") (T := T_En) (N := 15) hx hb hts in_En hown hK hI 5 kC_5 rfl 8 (by decide) (hts _ mw_269) rfl d_En_doNone_137 ?_
      refine lv_aload_n hx hb d_En_doNone_140 rfl (lv_at hl 0 rfl) ?_
      refine sv_getr (C := "StoryMachine$Engine") (T := T_En) (N := 15) hx hb hts in_En hown hK hI 5 kC_5 rfl 0 (by decide) (hts _ mw_261) rfl d_En_doNone_141 ?_
      refine lv_aload_n hx hb d_En_doNone_144 rfl (lv_at hl 0 rfl) ?_
      refine sv_getr (C := "StoryMachine$Engine") (T := T_En) (N := 15) hx hb hts in_En hown hK hI 5 kC_5 rfl 2 (by decide) (hts _ mw_263) rfl d_En_doNone_145 ?_
      refine lv_aload_n hx hb d_En_doNone_148 rfl (lv_at hl 0 rfl) ?_
      refine sv_get (C := "StoryMachine$Engine") (T := T_En) (N := 15) hx hb hts in_En hown hK hI 5 kC_5 rfl 13 (by decide) (hts _ mw_277) rfl d_En_doNone_149 (fun z111 hz111a hz111b => ?_)
      refine tz_call (A1 := ga (adC a) H.size) (tz_runV (C := "StoryMachine$Aside") (As := [.ref (a 1), .ref (a 3), .int z111]) (rest := []) ⟨hx, hb, hml, hown, hts⟩ (c_As_keep l hfl dC dI cI cJ a H.size t_he104 t_dp105 co li op wd tl lc fo sf lf nf z111 c106) (tx_cb (n := 3) hts rfl rfl ⟨Nat.le_of_ble_eq_true rfl, Nat.le_of_ble_eq_true rfl⟩ (tx_code.of (hts _ mw_710)) (hts _ mw_7) (by decide +kernel) (hts _ mw_707)) (hts _ mw_708) (hts _ mw_709) ⟨tz_blind, sv_recv (q0 := 20) hts in_As hK hI kC_20 rfl, fun U hU hW => ⟨rfl, by rw [hU], by rw [hU]; exact hI.1, va_K.moved hW.alike hK, hst _ _ hI.2 U hU hW⟩⟩ rfl rfl hl.1 rfl (lv_room (Nat.le_of_ble_eq_true rfl)) d_En_doNone_152 ⟨Nat.le_of_ble_eq_true rfl, Nat.le_of_ble_eq_true rfl⟩) hI.2 (fun q _ h => ga_sub hAC hA0 hI.2 q h) (ga_sub hAC hA0 hI.2) (fun v t H1 locs1 ht hWt hpost _ _ hS => ?_) (fun x t H1 locs1 ht hWt hpost _ _ hS => (hpost.2 x rfl).elim)
      rcases hpost.1 _ rfl with ⟨hv, c112, hI1⟩
      cases hv
      have hI : sI (dC, dI) vcl cI cJ (gsC a t_he104 t_dp105 co li op wd tl lc fo sf lf nf) A s.heap H1 locs1 := ⟨by rw [← ht]; exact hI1, hS⟩
      clear hpost hI1 hS ht hWt
      revert hI; generalize H1 = H; generalize locs1 = locs; intro hI
      refine lv_goto (tgt := 243) hx hb d_En_doNone_155 (by decide) ?_
      subst hZ
      exact tz_ret (W.vret hx hb hr (fun t ht hW => ⟨⟨fun v9 hv9 => by cases hv9; exact (⟨t_he104, t_dp105, nf, rfl, c112, by rw [ht]; exact hI.1⟩), fun x9 hx9 => (by cases hx9)⟩, hI.2.F ht⟩) hI.2.2.2 d_En_doNone_243)
    · rcases hpost.2 _ rfl with ⟨t_he113, t_dp114, hex, c115, c115_0, hI1⟩ | ⟨t_he116, t_dp117, hex, c118, c118_0, c118_1, hI1⟩
      · have hI : sI (dC, dI) vcl cI cJ (gsC a t_he113 t_dp114 co li op wd tl lc fo sf lf nf) A s.heap H1 locs1 := ⟨by rw [← ht]; exact hI1, hS⟩
        obtain ⟨⟨o119, o120⟩, ⟨o121, o122⟩, -, -, -, -, -, -, -, -, -, -⟩ := id c115
        refine tz_widen (k := 1) (n := 6) (Nat.le_of_ble_eq_true rfl) (Nat.le_of_ble_eq_true rfl) ?_
        subst hZ
        exact tz_leave (tx_noH B (hts _ mw_599) _) (fun t9 ht9 hW9 => ⟨⟨fun v9 hv9 => (by cases hv9), fun x9 hx9 => by cases hx9; exact (Or.inl ⟨t_he113, t_dp114, ta_exm hex ht ht9 hWt hW9, c115, by omega, by rw [ht9]; exact hI.1⟩)⟩, hI.2.F ht9⟩) hI.2.2.2 hlocks
      · have hI : sI (dC, dI) vcl cI cJ (gsC a t_he116 t_dp117 co li op wd tl lc fo sf lf nf) A s.heap H1 locs1 := ⟨by rw [← ht]; exact hI1, hS⟩
        obtain ⟨⟨o123, o124⟩, ⟨o125, o126⟩, -, -, -, -, -, -, -, -, -, -⟩ := id c118
        refine tz_widen (k := 1) (n := 6) (Nat.le_of_ble_eq_true rfl) (Nat.le_of_ble_eq_true rfl) ?_
        subst hZ
        exact tz_leave (tx_noH B (hts _ mw_599) _) (fun t9 ht9 hW9 => ⟨⟨fun v9 hv9 => (by cases hv9), fun x9 hx9 => by cases hx9; exact (Or.inr (⟨t_he116, t_dp117, ta_exm hex ht ht9 hWt hW9, c118, by omega, by rw [ht9]; exact hI.1⟩))⟩, hI.2.F ht9⟩) hI.2.2.2 hlocks
  by_cases b127 : z20.toInt = 6
  · refine sn_tin (v := 6) (off := 151) (tgt := 158) hx hb d_En_doNone_7 b127 (by decide) (by decide) (by decide) (by decide) ?_
    refine lv_aload_n hx hb d_En_doNone_158 rfl (lv_at hl 0 rfl) ?_
    refine sv_getr (C := "StoryMachine$Engine") (T := T_En) (N := 15) hx hb hts in_En hown hK hI 5 kC_5 rfl 8 (by decide) (hts _ mw_269) rfl d_En_doNone_159 ?_
    refine sv_get (C := "StoryMachine$Aside") (T := T_As) (N := 4) hx hb hts in_As hown hK hI 20 kC_20 rfl 0 (by decide) (hts _ mw_149) rfl d_En_doNone_162 (fun z128 hz128a hz128b => ?_)
    refine sn_if_eq (tgt := 190) hx hb d_En_doNone_165 (by decide) (fun b129 => ?_) (fun b129 => ?_)
    · refine lv_aload_n hx hb d_En_doNone_190 rfl (lv_at hl 0 rfl) ?_
      refine sn_iconst hx hb d_En_doNone_191 (by decide) (fun z130 hz130 => ?_)
      refine tz_call (A1 := ga (adC a) H.size) (tz_runV (C := "StoryMachine$Engine") (As := [.int z130]) (rest := []) ⟨hx, hb, hml, hown, hts⟩ (c_En_branch l hfl dC dI cI cJ a H.size he dp co li op wd tl lc fo sf lf nf z130 hok (by omega) (by omega)) (tx_cb (n := 1) hts rfl rfl ⟨Nat.le_of_ble_eq_true rfl, Nat.le_of_ble_eq_true rfl⟩ (tx_code.of (hts _ mw_706)) (hts _ mw_6) (by decide +kernel) (hts _ mw_703)) (hts _ mw_705) (hts _ ms_En_branch) ⟨tz_blind, sv_recv (q0 := 5) hts in_En hK hI kC_5 rfl, fun U hU hW => ⟨rfl, by rw [hU], by rw [hU]; exact hI.1, va_K.moved hW.alike hK, hst _ _ hI.2 U hU hW⟩⟩ rfl rfl hl.1 rfl (lv_room (Nat.le_of_ble_eq_true rfl)) d_En_doNone_192 ⟨Nat.le_of_ble_eq_true rfl, Nat.le_of_ble_eq_true rfl⟩) hI.2 (fun q _ h => ga_sub hAC hA0 hI.2 q h) (ga_sub hAC hA0 hI.2) (fun v t H1 locs1 ht hWt hpost _ _ hS => ?_) (fun x t H1 locs1 ht hWt hpost _ _ hS => ?_)
      · rcases hpost.1 _ rfl with ⟨t_he131, t_dp132, hv, c133, hI1⟩
        cases hv
        have hI : sI (dC, dI) vcl cI cJ (gsC a t_he131 t_dp132 co li op wd tl lc fo sf lf nf) A s.heap H1 locs1 := ⟨by rw [← ht]; exact hI1, hS⟩
        obtain ⟨⟨o134, o135⟩, ⟨o136, o137⟩, -, -, -, -, -, -, -, -, -, -⟩ := id c133
        clear hpost hI1 hS ht hWt
        revert hI; generalize H1 = H; generalize locs1 = locs; intro hI
        refine lv_goto (tgt := 243) hx hb d_En_doNone_195 (by decide) ?_
        subst hZ
        exact tz_ret (W.vret hx hb hr (fun t ht hW => ⟨⟨fun v9 hv9 => by cases hv9; exact (⟨t_he131, t_dp132, nf, rfl, c133, by rw [ht]; exact hI.1⟩), fun x9 hx9 => (by cases hx9)⟩, hI.2.F ht⟩) hI.2.2.2 d_En_doNone_243)
      · rcases hpost.2 _ rfl with ⟨t_he138, t_dp139, hex, c140, c140_0, hI1⟩ | ⟨t_he141, t_dp142, hex, c143, c143_0, c143_1, hI1⟩
        · have hI : sI (dC, dI) vcl cI cJ (gsC a t_he138 t_dp139 co li op wd tl lc fo sf lf nf) A s.heap H1 locs1 := ⟨by rw [← ht]; exact hI1, hS⟩
          obtain ⟨⟨o144, o145⟩, ⟨o146, o147⟩, -, -, -, -, -, -, -, -, -, -⟩ := id c140
          refine tz_widen (k := 1) (n := 6) (Nat.le_of_ble_eq_true rfl) (Nat.le_of_ble_eq_true rfl) ?_
          subst hZ
          exact tz_leave (tx_noH B (hts _ mw_599) _) (fun t9 ht9 hW9 => ⟨⟨fun v9 hv9 => (by cases hv9), fun x9 hx9 => by cases hx9; exact (Or.inl ⟨t_he138, t_dp139, ta_exm hex ht ht9 hWt hW9, c140, by omega, by rw [ht9]; exact hI.1⟩)⟩, hI.2.F ht9⟩) hI.2.2.2 hlocks
        · have hI : sI (dC, dI) vcl cI cJ (gsC a t_he141 t_dp142 co li op wd tl lc fo sf lf nf) A s.heap H1 locs1 := ⟨by rw [← ht]; exact hI1, hS⟩
          obtain ⟨⟨o148, o149⟩, ⟨o150, o151⟩, -, -, -, -, -, -, -, -, -, -⟩ := id c143
          refine tz_widen (k := 1) (n := 6) (Nat.le_of_ble_eq_true rfl) (Nat.le_of_ble_eq_true rfl) ?_
          subst hZ
          exact tz_leave (tx_noH B (hts _ mw_599) _) (fun t9 ht9 hW9 => ⟨⟨fun v9 hv9 => (by cases hv9), fun x9 hx9 => by cases hx9; exact (Or.inr (⟨t_he141, t_dp142, ta_exm hex ht ht9 hWt hW9, c143, by omega, by rw [ht9]; exact hI.1⟩))⟩, hI.2.F ht9⟩) hI.2.2.2 hlocks
    · refine lv_aload_n hx hb d_En_doNone_168 rfl (lv_at hl 0 rfl) ?_
      refine lv_aload_n hx hb d_En_doNone_169 rfl (lv_at hl 0 rfl) ?_
      refine sv_getr (C := "StoryMachine$Engine") (T := T_En) (N := 15) hx hb hts in_En hown hK hI 5 kC_5 rfl 8 (by decide) (hts _ mw_269) rfl d_En_doNone_170 ?_
      refine lv_aload_n hx hb d_En_doNone_173 rfl (lv_at hl 0 rfl) ?_
      refine sv_getr (C := "StoryMachine$Engine") (T := T_En) (N := 15) hx hb hts in_En hown hK hI 5 kC_5 rfl 0 (by decide) (hts _ mw_261) rfl d_En_doNone_174 ?_
      refine lv_aload_n hx hb d_En_doNone_177 rfl (lv_at hl 0 rfl) ?_
      refine sv_getr (C := "StoryMachine$Engine") (T := T_En) (N := 15) hx hb hts in_En hown hK hI 5 kC_5 rfl 2 (by decide) (hts _ mw_263) rfl d_En_doNone_178 ?_
      refine tz_call (A1 := ga (adC a) H.size) (tz_runV (C := "StoryMachine$Aside") (As := [.ref (a 1), .ref (a 3)]) (rest := [.ref (a 5)]) ⟨hx, hb, hml, hown, hts⟩ (c_As_bringBack l hfl dC dI cI cJ a H.size he dp co li op wd tl lc fo sf lf nf  hok) (tx_cb (n := 2) hts rfl rfl ⟨Nat.le_of_ble_eq_true rfl, Nat.le_of_ble_eq_true rfl⟩ (tx_code.of (hts _ mw_726)) (hts _ mw_7) (by decide +kernel) (hts _ mw_723)) (hts _ mw_724) (hts _ mw_725) ⟨tz_blind, sv_recv (q0 := 20) hts in_As hK hI kC_20 rfl, fun U hU hW => ⟨rfl, by rw [hU], by rw [hU]; exact hI.1, va_K.moved hW.alike hK, hst _ _ hI.2 U hU hW⟩⟩ rfl rfl hl.1 rfl (lv_room (Nat.le_of_ble_eq_true rfl)) d_En_doNone_181 ⟨Nat.le_of_ble_eq_true rfl, Nat.le_of_ble_eq_true rfl⟩) hI.2 (fun q _ h => ga_sub hAC hA0 hI.2 q h) (ga_sub hAC hA0 hI.2) (fun v t H1 locs1 ht hWt hpost _ _ hS => ?_) (fun x t H1 locs1 ht hWt hpost _ _ hS => (hpost.2 x rfl).elim)
      rcases hpost.1 _ rfl with ⟨z152, t_he153, t_dp154, f_nf155, hv, c156, c156_0, c156_1, hI1⟩
      cases hv
      have hI : sI (dC, dI) vcl cI cJ (gsC a t_he153 t_dp154 co li op wd tl lc fo sf lf f_nf155) A s.heap H1 locs1 := ⟨by rw [← ht]; exact hI1, hS⟩
      obtain ⟨⟨o157, o158⟩, ⟨o159, o160⟩, -, -, -, -, -, -, -, -, -, -⟩ := id c156
      clear hpost hI1 hS ht hWt
      revert hI; generalize H1 = H; generalize locs1 = locs; intro hI
      refine sv_put (C := "StoryMachine$Engine") (T := T_En) (N := 15) (ty := .int) hx hb hts in_En t_En tk_En nm_En hown hK (sh_in adC_map hAC) hI 5 kC_5 rfl 13 (by decide) (hts _ mw_277) rfl (by decide +kernel) rfl rfl (Nat.le_of_ble_eq_true rfl) (by omega) (by omega) pC_5_13 d_En_doNone_184 (fun H locs hI => ?_)
      refine lv_goto (tgt := 243) hx hb d_En_doNone_187 (by decide) ?_
      subst hZ
      exact tz_ret (W.vret hx hb hr (fun t ht hW => ⟨⟨fun v9 hv9 => by cases hv9; exact (⟨t_he153, t_dp154, f_nf155, rfl, c156, by rw [ht]; exact hI.1⟩), fun x9 hx9 => (by cases hx9)⟩, hI.2.F ht⟩) hI.2.2.2 d_En_doNone_243)
  by_cases b161 : z20.toInt = 8
  · refine sn_tin (v := 8) (off := 191) (tgt := 198) hx hb d_En_doNone_7 b161 (by decide) (by decide) (by decide) (by decide) ?_
    refine lv_aload_n hx hb d_En_doNone_198 rfl (lv_at hl 0 rfl) ?_
    refine lv_aload_n hx hb d_En_doNone_199 rfl (lv_at hl 0 rfl) ?_
    refine sv_getr (C := "StoryMachine$Engine") (T := T_En) (N := 15) hx hb hts in_En hown hK hI 5 kC_5 rfl 2 (by decide) (hts _ mw_263) rfl d_En_doNone_200 ?_
    refine tz_call (A1 := ga (adC a) H.size) (tz_runV (C := "StoryMachine$Routines") (As := []) (rest := [.ref (a 5)]) ⟨hx, hb, hml, hown, hts⟩ (c_Ro_pop l hfl dC dI cI cJ a H.size he dp co li op wd tl lc fo sf lf nf  hok) (tx_cb (n := 0) hts rfl rfl ⟨Nat.le_of_ble_eq_true rfl, Nat.le_of_ble_eq_true rfl⟩ (tx_code.of (hts _ mw_548)) (hts _ mw_4) (by decide +kernel) (hts _ mw_727)) (hts _ mw_546) (hts _ mw_547) ⟨tz_blind, sv_recv (q0 := 3) hts in_Ro hK hI kC_3 rfl, fun U hU hW => ⟨rfl, by rw [hU], by rw [hU]; exact hI.1, va_K.moved hW.alike hK, hst _ _ hI.2 U hU hW⟩⟩ rfl rfl hl.1 rfl (lv_room (Nat.le_of_ble_eq_true rfl)) d_En_doNone_203 ⟨Nat.le_of_ble_eq_true rfl, Nat.le_of_ble_eq_true rfl⟩) hI.2 (fun q _ h => ga_sub hAC hA0 hI.2 q h) (ga_sub hAC hA0 hI.2) (fun v t H1 locs1 ht hWt hpost _ _ hS => ?_) (fun x t H1 locs1 ht hWt hpost _ _ hS => ?_)
    · rcases hpost.1 _ rfl with ⟨z162, t_he163, hv, c164, c164_0, c164_1, c164_2, c164_3, hI1⟩
      cases hv
      have hI : sI (dC, dI) vcl cI cJ (gsC a t_he163 dp co li op wd tl lc fo sf lf nf) A s.heap H1 locs1 := ⟨by rw [← ht]; exact hI1, hS⟩
      obtain ⟨⟨o165, o166⟩, -, -, -, -, -, -, -, -, -, -, -⟩ := id c164
      clear hpost hI1 hS ht hWt
      revert hI; generalize H1 = H; generalize locs1 = locs; intro hI
      refine tz_call (A1 := ga (adC a) H.size) (tz_runV (C := "StoryMachine$Engine") (As := [.int z162]) (rest := []) ⟨hx, hb, hml, hown, hts⟩ (c_En_returnWith l hfl dC dI cI cJ a H.size t_he163 dp co li op wd tl lc fo sf lf nf z162 c164) (tx_cb (n := 1) hts rfl rfl ⟨Nat.le_of_ble_eq_true rfl, Nat.le_of_ble_eq_true rfl⟩ (tx_code.of (hts _ mw_603)) (hts _ mw_6) (by decide +kernel) (hts _ mw_600)) (hts _ mw_602) (hts _ ms_En_returnWith) ⟨tz_blind, sv_recv (q0 := 5) hts in_En hK hI kC_5 rfl, fun U hU hW => ⟨rfl, by rw [hU], by rw [hU]; exact hI.1, va_K.moved hW.alike hK, hst _ _ hI.2 U hU hW⟩⟩ rfl rfl hl.1 rfl (lv_room (Nat.le_of_ble_eq_true rfl)) d_En_doNone_206 ⟨Nat.le_of_ble_eq_true rfl, Nat.le_of_ble_eq_true rfl⟩) hI.2 (fun q _ h => ga_sub hAC hA0 hI.2 q h) (ga_sub hAC hA0 hI.2) (fun v t H1 locs1 ht hWt hpost _ _ hS => ?_) (fun x t H1 locs1 ht hWt hpost _ _ hS => ?_)
      · rcases hpost.1 _ rfl with ⟨t_he167, t_dp168, hv, c169, c169_0, c169_1, hI1⟩
        cases hv
        have hI : sI (dC, dI) vcl cI cJ (gsC a t_he167 t_dp168 co li op wd tl lc fo sf lf nf) A s.heap H1 locs1 := ⟨by rw [← ht]; exact hI1, hS⟩
        obtain ⟨⟨o170, o171⟩, ⟨o172, o173⟩, -, -, -, -, -, -, -, -, -, -⟩ := id c169
        clear hpost hI1 hS ht hWt
        revert hI; generalize H1 = H; generalize locs1 = locs; intro hI
        refine lv_goto (tgt := 243) hx hb d_En_doNone_209 (by decide) ?_
        subst hZ
        exact tz_ret (W.vret hx hb hr (fun t ht hW => ⟨⟨fun v9 hv9 => by cases hv9; exact (⟨t_he167, t_dp168, nf, rfl, c169, by rw [ht]; exact hI.1⟩), fun x9 hx9 => (by cases hx9)⟩, hI.2.F ht⟩) hI.2.2.2 d_En_doNone_243)
      · rcases hpost.2 _ rfl with ⟨t_he174, t_dp175, hex, c176, c176_0, hI1⟩ | ⟨t_he177, t_dp178, hex, c179, c179_0, c179_1, hI1⟩
        · have hI : sI (dC, dI) vcl cI cJ (gsC a t_he174 t_dp175 co li op wd tl lc fo sf lf nf) A s.heap H1 locs1 := ⟨by rw [← ht]; exact hI1, hS⟩
          obtain ⟨⟨o180, o181⟩, ⟨o182, o183⟩, -, -, -, -, -, -, -, -, -, -⟩ := id c176
          refine tz_widen (k := 1) (n := 6) (Nat.le_of_ble_eq_true rfl) (Nat.le_of_ble_eq_true rfl) ?_
          subst hZ
          exact tz_leave (tx_noH B (hts _ mw_599) _) (fun t9 ht9 hW9 => ⟨⟨fun v9 hv9 => (by cases hv9), fun x9 hx9 => by cases hx9; exact (Or.inl ⟨t_he174, t_dp175, ta_exm hex ht ht9 hWt hW9, c176, by omega, by rw [ht9]; exact hI.1⟩)⟩, hI.2.F ht9⟩) hI.2.2.2 hlocks
        · have hI : sI (dC, dI) vcl cI cJ (gsC a t_he177 t_dp178 co li op wd tl lc fo sf lf nf) A s.heap H1 locs1 := ⟨by rw [← ht]; exact hI1, hS⟩
          obtain ⟨⟨o184, o185⟩, ⟨o186, o187⟩, -, -, -, -, -, -, -, -, -, -⟩ := id c179
          refine tz_widen (k := 1) (n := 6) (Nat.le_of_ble_eq_true rfl) (Nat.le_of_ble_eq_true rfl) ?_
          subst hZ
          exact tz_leave (tx_noH B (hts _ mw_599) _) (fun t9 ht9 hW9 => ⟨⟨fun v9 hv9 => (by cases hv9), fun x9 hx9 => by cases hx9; exact (Or.inr (⟨t_he177, t_dp178, ta_exm hex ht ht9 hWt hW9, c179, by omega, by rw [ht9]; exact hI.1⟩))⟩, hI.2.F ht9⟩) hI.2.2.2 hlocks
    · rcases hpost.2 _ rfl with ⟨hex, c188, hI1⟩
      have hI : sI (dC, dI) vcl cI cJ (gsC a he dp co li op wd tl lc fo sf lf nf) A s.heap H1 locs1 := ⟨by rw [← ht]; exact hI1, hS⟩
      refine tz_widen (k := 1) (n := 6) (Nat.le_of_ble_eq_true rfl) (Nat.le_of_ble_eq_true rfl) ?_
      subst hZ
      exact tz_leave (tx_noH B (hts _ mw_599) _) (fun t9 ht9 hW9 => ⟨⟨fun v9 hv9 => (by cases hv9), fun x9 hx9 => by cases hx9; exact (Or.inr (⟨he, dp, ta_exm hex ht ht9 hWt hW9, c188, by omega, by rw [ht9]; exact hI.1⟩))⟩, hI.2.F ht9⟩) hI.2.2.2 hlocks
  by_cases b189 : z20.toInt = 9
  · refine sn_tin (v := 9) (off := 205) (tgt := 212) hx hb d_En_doNone_7 b189 (by decide) (by decide) (by decide) (by decide) ?_
    refine lv_aload_n hx hb d_En_doNone_212 rfl (lv_at hl 0 rfl) ?_
    refine sv_getr (C := "StoryMachine$Engine") (T := T_En) (N := 15) hx hb hts in_En hown hK hI 5 kC_5 rfl 2 (by decide) (hts _ mw_263) rfl d_En_doNone_213 ?_
    refine tz_call (A1 := ga (adC a) H.size) (tz_runV (C := "StoryMachine$Routines") (As := []) (rest := []) ⟨hx, hb, hml, hown, hts⟩ (c_Ro_pop l hfl dC dI cI cJ a H.size he dp co li op wd tl lc fo sf lf nf  hok) (tx_cb (n := 0) hts rfl rfl ⟨Nat.le_of_ble_eq_true rfl, Nat.le_of_ble_eq_true rfl⟩ (tx_code.of (hts _ mw_548)) (hts _ mw_4) (by decide +kernel) (hts _ mw_727)) (hts _ mw_546) (hts _ mw_547) ⟨tz_blind, sv_recv (q0 := 3) hts in_Ro hK hI kC_3 rfl, fun U hU hW => ⟨rfl, by rw [hU], by rw [hU]; exact hI.1, va_K.moved hW.alike hK, hst _ _ hI.2 U hU hW⟩⟩ rfl rfl hl.1 rfl (lv_room (Nat.le_of_ble_eq_true rfl)) d_En_doNone_216 ⟨Nat.le_of_ble_eq_true rfl, Nat.le_of_ble_eq_true rfl⟩) hI.2 (fun q _ h => ga_sub hAC hA0 hI.2 q h) (ga_sub hAC hA0 hI.2) (fun v t H1 locs1 ht hWt hpost _ _ hS => ?_) (fun x t H1 locs1 ht hWt hpost _ _ hS => ?_)
    · rcases hpost.1 _ rfl with ⟨z190, t_he191, hv, c192, c192_0, c192_1, c192_2, c192_3, hI1⟩
      cases hv
      have hI : sI (dC, dI) vcl cI cJ (gsC a t_he191 dp co li op wd tl lc fo sf lf nf) A s.heap H1 locs1 := ⟨by rw [← ht]; exact hI1, hS⟩
      obtain ⟨⟨o193, o194⟩, -, -, -, -, -, -, -, -, -, -, -⟩ := id c192
      clear hpost hI1 hS ht hWt
      revert hI; generalize H1 = H; generalize locs1 = locs; intro hI
      refine lv_pop hx hb d_En_doNone_219 rfl ?_
      refine lv_goto (tgt := 243) hx hb d_En_doNone_220 (by decide) ?_
      subst hZ
      exact tz_ret (W.vret hx hb hr (fun t ht hW => ⟨⟨fun v9 hv9 => by cases hv9; exact (⟨t_he191, dp, nf, rfl, c192, by rw [ht]; exact hI.1⟩), fun x9 hx9 => (by cases hx9)⟩, hI.2.F ht⟩) hI.2.2.2 d_En_doNone_243)
    · rcases hpost.2 _ rfl with ⟨hex, c195, hI1⟩
      have hI : sI (dC, dI) vcl cI cJ (gsC a he dp co li op wd tl lc fo sf lf nf) A s.heap H1 locs1 := ⟨by rw [← ht]; exact hI1, hS⟩
      refine tz_widen (k := 1) (n := 6) (Nat.le_of_ble_eq_true rfl) (Nat.le_of_ble_eq_true rfl) ?_
      subst hZ
      exact tz_leave (tx_noH B (hts _ mw_599) _) (fun t9 ht9 hW9 => ⟨⟨fun v9 hv9 => (by cases hv9), fun x9 hx9 => by cases hx9; exact (Or.inr (⟨he, dp, ta_exm hex ht ht9 hWt hW9, c195, by omega, by rw [ht9]; exact hI.1⟩))⟩, hI.2.F ht9⟩) hI.2.2.2 hlocks
  by_cases b196 : z20.toInt = 10
  · refine sn_tin (v := 10) (off := 216) (tgt := 223) hx hb d_En_doNone_7 b196 (by decide) (by decide) (by decide) (by decide) ?_
    refine lv_aload_n hx hb d_En_doNone_223 rfl (lv_at hl 0 rfl) ?_
    refine sn_iconst hx hb d_En_doNone_224 (by decide) (fun z197 hz197 => ?_)
    refine sv_put (C := "StoryMachine$Engine") (T := T_En) (N := 15) (ty := .boolean) hx hb hts in_En t_En tk_En nm_En hown hK (sh_in adC_map hAC) hI 5 kC_5 rfl 10 (by decide) (hts _ mw_271) rfl (by decide +kernel) (sn_bool (by omega) (by omega)).1 (sn_bool (by omega) (by omega)).2 (Nat.le_of_ble_eq_true rfl) (by omega) (by omega) pC_5_10 d_En_doNone_225 (fun H locs hI => ?_)
    refine lv_goto (tgt := 243) hx hb d_En_doNone_228 (by decide) ?_
    subst hZ
    exact tz_ret (W.vret hx hb hr (fun t ht hW => ⟨⟨fun v9 hv9 => by cases hv9; exact (⟨he, dp, nf, rfl, hok, by rw [ht]; exact hI.1⟩), fun x9 hx9 => (by cases hx9)⟩, hI.2.F ht⟩) hI.2.2.2 d_En_doNone_243)
  by_cases b198 : z20.toInt = 11
  · refine sn_tin (v := 11) (off := 224) (tgt := 231) hx hb d_En_doNone_7 b198 (by decide) (by decide) (by decide) (by decide) ?_
    refine lv_aload_n hx hb d_En_doNone_231 rfl (lv_at hl 0 rfl) ?_
    refine sv_getr (C := "StoryMachine$Engine") (T := T_En) (N := 15) hx hb hts in_En hown hK hI 5 kC_5 rfl 3 (by decide) (hts _ mw_264) rfl d_En_doNone_232 ?_
    refine sn_bipush hx hb d_En_doNone_235 (by decide) (fun z199 hz199 => ?_)
    refine tz_call (A1 := ga (adC a) H.size) (tz_runV (C := "StoryMachine$Printer") (As := [.int z199]) (rest := []) ⟨hx, hb, hml, hown, hts⟩ (c_Pr_put l hfl dC dI cI cJ a H.size he dp co li op wd tl lc fo sf lf nf z199 hok) (tx_cb (n := 1) hts rfl rfl ⟨Nat.le_of_ble_eq_true rfl, Nat.le_of_ble_eq_true rfl⟩ (tx_code.of (hts _ mw_653)) (hts _ mw_5) (by decide +kernel) (hts _ mw_702)) (hts _ mw_651) (hts _ mw_652) ⟨tz_blind, sv_recv (q0 := 4) hts in_Pr hK hI kC_4 rfl, fun U hU hW => ⟨rfl, by rw [hU], by rw [hU]; exact hI.1, va_K.moved hW.alike hK, hst _ _ hI.2 U hU hW⟩⟩ rfl rfl hl.1 rfl (lv_room (Nat.le_of_ble_eq_true rfl)) d_En_doNone_237 ⟨Nat.le_of_ble_eq_true rfl, Nat.le_of_ble_eq_true rfl⟩) hI.2 (fun q _ h => ga_sub hAC hA0 hI.2 q h) (ga_sub hAC hA0 hI.2) (fun v t H1 locs1 ht hWt hpost _ _ hS => ?_) (fun x t H1 locs1 ht hWt hpost _ _ hS => (hpost.2 x rfl).elim)
    rcases hpost.1 _ rfl with ⟨hv, c200, hI1⟩
    cases hv
    have hI : sI (dC, dI) vcl cI cJ (gsC a he dp co li op wd tl lc fo sf lf nf) A s.heap H1 locs1 := ⟨by rw [← ht]; exact hI1, hS⟩
    clear hpost hI1 hS ht hWt
    revert hI; generalize H1 = H; generalize locs1 = locs; intro hI
    refine lv_goto (tgt := 243) hx hb d_En_doNone_240 (by decide) ?_
    subst hZ
    exact tz_ret (W.vret hx hb hr (fun t ht hW => ⟨⟨fun v9 hv9 => by cases hv9; exact (⟨he, dp, nf, rfl, c200, by rw [ht]; exact hI.1⟩), fun x9 hx9 => (by cases hx9)⟩, hI.2.F ht⟩) hI.2.2.2 d_En_doNone_243)
  by_cases b201 : z20.toInt = 4
  · exact sn_tin (v := 4) (off := 236) (tgt := 243) hx hb d_En_doNone_7 b201 (by decide) (by decide) (by decide) (by decide) w21
  by_cases b202 : z20.toInt = 7
  · exact sn_tin (v := 7) (off := 236) (tgt := 243) hx hb d_En_doNone_7 b202 (by decide) (by decide) (by decide) (by decide) w21
  exact lv_tableOut (tgt := 243) hx hb d_En_doNone_7 (by omega) (by decide) w21
abbrev q_En_changedBy (dC : Nat → ClassId) (dI : Nat → Nat → Nat) (cI cJ : ClassId) (a : Nat → Nat) (he dp co li op wd tl lc fo : Int) (sf lf nf : Nat → Int32) (x1 : Int32) (x2 : Int32) : Outcome → State → Prop := fun o t => (∀ v, o = .returned v → ((∃ (z : Int32) (he_ : Int), v = some (.int z) ∧ okC he_ dp co li op wd tl lc fo sf lf nf ∧ ((-32768) ≤ z.toInt) ∧ (z.toInt ≤ 32767) ∧ (x1.toInt ≤ 47) ∧ sh_I (dC, dI) vcl cI cJ (gsC a he_ dp co li op wd tl lc fo sf lf nf) t.heap))) ∧ (∀ x, o = .threw x → ((∃ (he_ : Int), ta_Ex "java/lang/IllegalArgumentException" x t ∧ okC he_ dp co li op wd tl lc fo sf lf nf ∧ sh_I (dC, dI) vcl cI cJ (gsC a he_ dp co li op wd tl lc fo sf lf nf) t.heap) ∨ (∃ (he_ : Int), ta_Ex "java/lang/IllegalStateException" x t ∧ okC he_ dp co li op wd tl lc fo sf lf nf ∧ (x1.toInt ≤ 0) ∧ sh_I (dC, dI) vcl cI cJ (gsC a he_ dp co li op wd tl lc fo sf lf nf) t.heap)))
def rm_En_changedBy : Room := { frames := 10, cells := 1, slots := 6, locals := 193 }
set_option maxHeartbeats 4000000 in
set_option maxRecDepth 100000 in
theorem c_En_changedBy (l : Launch) (hfl : l.flags = pinnedFlags ++ [noTraceFlag]) (dC : Nat → ClassId) (dI : Nat → Nat → Nat) (cI cJ : ClassId) (a : Nat → Nat) (sz : Nat) (he dp co li op wd tl lc fo : Int) (sf lf nf : Nat → Int32) (x1 : Int32) (x2 : Int32) (hok : okC he dp co li op wd tl lc fo sf lf nf) (hp0 : 0 ≤ x1.toInt) (hp1 : x1.toInt ≤ 65535) (hp2 : (-1) ≤ x2.toInt) (hp3 : x2.toInt ≤ 1) : tz_Met l ⟨"StoryMachine$Engine", "changedBy", "(II)I"⟩ tw_tbl rm_En_changedBy (tzP (dC, dI) vcl cI cJ (gsC a he dp co li op wd tl lc fo sf lf nf) a (adC a) [.ref (a 5), .int x1, .int x2] sz) (tq_Q (q_En_changedBy dC dI cI cJ a he dp co li op wd tl lc fo sf lf nf x1 x2) (ga (adC a) sz)) 0 0 1 6 (ga (adC a) sz) := by
  refine tz_ofW (cc := prog_4_method_10_code) (maxL := 4) (ret := (some .int)) (by decide) (tx_isM mw_769) ?_
  intro p e s m args below meth c s₁ B hml hv
  obtain ⟨rfl, hsz, hI0, hK, hst0⟩ := hv
  have hx := B.exec
  have hb := B.bytes
  have hr := B.returns
  have hts := atoms_spec (ws := tw_tbl) B.pre
  have hown : s.vm.findClass "StoryMachine$Engine" = some m.cls := findClass_of_methodNamed B.named
  have hlocks := B.notSynchronized
  subst hsz
  have hst := fun (H : Heap) (locs : List Loc) (hS : va_S (ga (adC a) s.heap.size) s.heap H locs) (U : State) (hU : U.heap = H) (hW : s.WarmedH U.vm) => zS_all adC_map hI0 hst0 hS hU hW
  have hAC : ∀ q ∈ adC a, ga (adC a) s.heap.size q := fun q h => Or.inl h
  have hA0 : ∀ q, s.heap.size ≤ q → ga (adC a) s.heap.size q := fun q h => Or.inr h
  have hI : sI (dC, dI) vcl cI cJ (gsC a he dp co li op wd tl lc fo sf lf nf) (ga (adC a) s.heap.size) s.heap s.heap [] := ⟨hI0, va_S.rf⟩
  clear hI0 hst0
  have hl := lv_entry ([.ref (a 5), .int x1, .int x2]) (n := 4) (Nat.le_of_ble_eq_true rfl)
  rw [lg_entry_eq]
  generalize (lg_sl ([.ref (a 5), .int x1, .int x2]) ++ List.replicate (4 - (lg_sl ([.ref (a 5), .int x1, .int x2])).length) Slot.unset).toArray = ls at hl ⊢
  have hl : lv_has ls 4 [(0, .ref (a 5)), (1, .int x1), (2, .int x2)] := hl
  generalize hZ : tz_MQ below (tq_Q (q_En_changedBy dC dI cI cJ a he dp co li op wd tl lc fo sf lf nf x1 x2) (ga (adC a) s.heap.size)) ([.ref (a 5), .int x1, .int x2] : List Value).toArray s 0 0 1 6 (ga (adC a) s.heap.size) = Z
  obtain ⟨A, hAe⟩ : ∃ A, A = ga (adC a) s.heap.size := ⟨_, rfl⟩
  rw [← hAe] at hst hAC hA0 hI hZ
  refine sv_start hI (fun H locs hI => ?_)
  obtain ⟨⟨o1, o2⟩, ⟨o3, o4⟩, ⟨o5, o6⟩, ⟨o7, o8⟩, ⟨o9, o10⟩, ⟨o11, o12⟩, ⟨o13, o14⟩, ⟨o15, o16⟩, ⟨o17, o18⟩, o19, -, -⟩ := id hok
  have gx1 := sn_rng x1
  have gx2 := sn_rng x2
  refine lv_aload_n hx hb d_En_changedBy_0 rfl (lv_at hl 0 rfl) ?_
  refine sv_getr (C := "StoryMachine$Engine") (T := T_En) (N := 15) hx hb hts in_En hown hK hI 5 kC_5 rfl 4 (by decide) (hts _ mw_265) rfl d_En_changedBy_1 ?_
  refine lv_iload_n hx hb d_En_changedBy_4 rfl (lv_at hl 1 rfl) ?_
  refine sn_iconst hx hb d_En_changedBy_5 (by decide) (fun z20 hz20 => ?_)
  refine tz_call (A1 := ga (adC a) H.size) (tz_runV (C := "StoryMachine$Variables") (As := [.int x1, .int z20]) (rest := []) ⟨hx, hb, hml, hown, hts⟩ (c_Va_read l hfl dC dI cI cJ a H.size he dp co li op wd tl lc fo sf lf nf x1 z20 hok) (tx_cb (n := 2) hts rfl rfl ⟨Nat.le_of_ble_eq_true rfl, Nat.le_of_ble_eq_true rfl⟩ (tx_code.of (hts _ mw_538)) (hts _ mw_8) (by decide +kernel) (hts _ mw_764)) (hts _ mw_536) (hts _ mw_537) ⟨tz_blind, sv_recv (q0 := 16) hts in_Va hK hI kC_16 rfl, fun U hU hW => ⟨rfl, by rw [hU], by rw [hU]; exact hI.1, va_K.moved hW.alike hK, hst _ _ hI.2 U hU hW⟩⟩ rfl rfl hl.1 rfl (lv_room (Nat.le_of_ble_eq_true rfl)) d_En_changedBy_6 ⟨Nat.le_of_ble_eq_true rfl, Nat.le_of_ble_eq_true rfl⟩) hI.2 (fun q _ h => ga_sub hAC hA0 hI.2 q h) (ga_sub hAC hA0 hI.2) (fun v t H1 locs1 ht hWt hpost _ _ hS => ?_) (fun x t H1 locs1 ht hWt hpost _ _ hS => ?_)
  · rcases hpost.1 _ rfl with ⟨z21, t_he22, hv, c23, c23_0, c23_1, c23_2, c23_3, hI1⟩
    cases hv
    have hI : sI (dC, dI) vcl cI cJ (gsC a t_he22 dp co li op wd tl lc fo sf lf nf) A s.heap H1 locs1 := ⟨by rw [← ht]; exact hI1, hS⟩
    obtain ⟨⟨o24, o25⟩, -, -, -, -, -, -, -, -, -, -, -⟩ := id c23
    clear hpost hI1 hS ht hWt
    revert hI; generalize H1 = H; generalize locs1 = locs; intro hI
    refine lv_iload_n hx hb d_En_changedBy_9 rfl (lv_at hl 2 rfl) ?_
    refine sn_iadd hx hb d_En_changedBy_10 (by omega) (by omega) (fun z26 hz26 => ?_)
    refine sn_i2s hx hb d_En_changedBy_11 (fun z27 hz27a hz27b hz27c => ?_)
    refine lv_istore_n (lv' := [(3, .int z27), (0, .ref (a 5)), (1, .int x1), (2, .int x2)]) hx hb d_En_changedBy_12 rfl hl (by decide) rfl (fun ls hl => ?_)
    refine lv_aload_n hx hb d_En_changedBy_13 rfl (lv_at hl 1 rfl) ?_
    refine sv_getr (C := "StoryMachine$Engine") (T := T_En) (N := 15) hx hb hts in_En hown hK hI 5 kC_5 rfl 4 (by decide) (hts _ mw_265) rfl d_En_changedBy_14 ?_
    refine lv_iload_n hx hb d_En_changedBy_17 rfl (lv_at hl 2 rfl) ?_
    refine lv_iload_n hx hb d_En_changedBy_18 rfl (lv_at hl 0 rfl) ?_
    refine sn_iconst hx hb d_En_changedBy_19 (by decide) (fun z28 hz28 => ?_)
    refine tz_call (A1 := ga (adC a) H.size) (tz_runV (C := "StoryMachine$Variables") (As := [.int x1, .int z27, .int z28]) (rest := []) ⟨hx, hb, hml, hown, hts⟩ (c_Va_write l hfl dC dI cI cJ a H.size t_he22 dp co li op wd tl lc fo sf lf nf x1 z27 z28 c23) (tx_cb (n := 3) hts rfl rfl ⟨Nat.le_of_ble_eq_true rfl, Nat.le_of_ble_eq_true rfl⟩ (tx_code.of (hts _ mw_619)) (hts _ mw_8) (by decide +kernel) (hts _ mw_616)) (hts _ mw_617) (hts _ mw_618) ⟨tz_blind, sv_recv (q0 := 16) hts in_Va hK hI kC_16 rfl, fun U hU hW => ⟨rfl, by rw [hU], by rw [hU]; exact hI.1, va_K.moved hW.alike hK, hst _ _ hI.2 U hU hW⟩⟩ rfl rfl hl.1 rfl (lv_room (Nat.le_of_ble_eq_true rfl)) d_En_changedBy_20 ⟨Nat.le_of_ble_eq_true rfl, Nat.le_of_ble_eq_true rfl⟩) hI.2 (fun q _ h => ga_sub hAC hA0 hI.2 q h) (ga_sub hAC hA0 hI.2) (fun v t H1 locs1 ht hWt hpost _ _ hS => ?_) (fun x t H1 locs1 ht hWt hpost _ _ hS => ?_)
    · rcases hpost.1 _ rfl with ⟨t_he29, hv, c30, c30_0, c30_1, hI1⟩
      cases hv
      have hI : sI (dC, dI) vcl cI cJ (gsC a t_he29 dp co li op wd tl lc fo sf lf nf) A s.heap H1 locs1 := ⟨by rw [← ht]; exact hI1, hS⟩
      obtain ⟨⟨o31, o32⟩, -, -, -, -, -, -, -, -, -, -, -⟩ := id c30
      clear hpost hI1 hS ht hWt
      revert hI; generalize H1 = H; generalize locs1 = locs; intro hI
      refine lv_iload_n hx hb d_En_changedBy_23 rfl (lv_at hl 0 rfl) ?_
      subst hZ
      exact tz_ret (W.iret (v := z27) hx hb hr (fun t ht hW => ⟨⟨fun v9 hv9 => by cases hv9; exact (⟨z27, t_he29, rfl, c30, by omega, by omega, by omega, by rw [ht]; exact hI.1⟩), fun x9 hx9 => (by cases hx9)⟩, hI.2.F ht⟩) hI.2.2.2 d_En_changedBy_24)
    · rcases hpost.2 _ rfl with ⟨hex, c33, hI1⟩ | ⟨hex, c34, c34_0, c34_1, hI1⟩
      · have hI : sI (dC, dI) vcl cI cJ (gsC a t_he22 dp co li op wd tl lc fo sf lf nf) A s.heap H1 locs1 := ⟨by rw [← ht]; exact hI1, hS⟩
        refine tz_widen (k := 1) (n := 6) (Nat.le_of_ble_eq_true rfl) (Nat.le_of_ble_eq_true rfl) ?_
        subst hZ
        exact tz_leave (tx_noH B (hts _ mw_769) _) (fun t9 ht9 hW9 => ⟨⟨fun v9 hv9 => (by cases hv9), fun x9 hx9 => by cases hx9; exact (Or.inl ⟨t_he22, ta_exm hex ht ht9 hWt hW9, c33, by rw [ht9]; exact hI.1⟩)⟩, hI.2.F ht9⟩) hI.2.2.2 hlocks
      · have hI : sI (dC, dI) vcl cI cJ (gsC a t_he22 dp co li op wd tl lc fo sf lf nf) A s.heap H1 locs1 := ⟨by rw [← ht]; exact hI1, hS⟩
        refine tz_widen (k := 1) (n := 6) (Nat.le_of_ble_eq_true rfl) (Nat.le_of_ble_eq_true rfl) ?_
        subst hZ
        exact tz_leave (tx_noH B (hts _ mw_769) _) (fun t9 ht9 hW9 => ⟨⟨fun v9 hv9 => (by cases hv9), fun x9 hx9 => by cases hx9; exact (Or.inr (⟨t_he22, ta_exm hex ht ht9 hWt hW9, c34, by omega, by rw [ht9]; exact hI.1⟩))⟩, hI.2.F ht9⟩) hI.2.2.2 hlocks
  · rcases hpost.2 _ rfl with ⟨hex, c35, hI1⟩ | ⟨hex, c36, c36_0, c36_1, hI1⟩
    · have hI : sI (dC, dI) vcl cI cJ (gsC a he dp co li op wd tl lc fo sf lf nf) A s.heap H1 locs1 := ⟨by rw [← ht]; exact hI1, hS⟩
      refine tz_widen (k := 1) (n := 6) (Nat.le_of_ble_eq_true rfl) (Nat.le_of_ble_eq_true rfl) ?_
      subst hZ
      exact tz_leave (tx_noH B (hts _ mw_769) _) (fun t9 ht9 hW9 => ⟨⟨fun v9 hv9 => (by cases hv9), fun x9 hx9 => by cases hx9; exact (Or.inl ⟨he, ta_exm hex ht ht9 hWt hW9, c35, by rw [ht9]; exact hI.1⟩)⟩, hI.2.F ht9⟩) hI.2.2.2 hlocks
    · have hI : sI (dC, dI) vcl cI cJ (gsC a he dp co li op wd tl lc fo sf lf nf) A s.heap H1 locs1 := ⟨by rw [← ht]; exact hI1, hS⟩
      refine tz_widen (k := 1) (n := 6) (Nat.le_of_ble_eq_true rfl) (Nat.le_of_ble_eq_true rfl) ?_
      subst hZ
      exact tz_leave (tx_noH B (hts _ mw_769) _) (fun t9 ht9 hW9 => ⟨⟨fun v9 hv9 => (by cases hv9), fun x9 hx9 => by cases hx9; exact (Or.inr (⟨he, ta_exm hex ht ht9 hWt hW9, c36, by omega, by rw [ht9]; exact hI.1⟩))⟩, hI.2.F ht9⟩) hI.2.2.2 hlocks
