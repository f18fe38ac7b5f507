abbrev q_En_doMany (dC : Nat → ClassId) (dI : Nat → Nat → Nat) (cI cJ : ClassId) (a : Nat → Nat) (he dp co li op wd tl lc fo : Int) (sf lf nf : Nat → Int32) (x1 : Int32) (x2 : Int32) (x3 : Int32) : Outcome → State → Prop := fun o t => (∀ v, o = .returned v → ((∃ (he_ dp_ wd_ lc_ : Int) (sf_ lf_ nf_ : Nat → Int32), v = none ∧ okC he_ dp_ co li op wd_ tl lc_ fo sf_ lf_ nf_ ∧ sh_I (dC, dI) vcl cI cJ (gsC a he_ dp_ co li op wd_ tl lc_ fo sf_ lf_ nf_) t.heap))) ∧ (∀ x, o = .threw x → ((∃ (he_ wd_ lc_ : Int) (sf_ lf_ : Nat → Int32), ta_Ex "java/lang/IllegalArgumentException" x t ∧ okC he_ dp co li op wd_ tl lc_ fo sf_ lf_ nf ∧ (op ≤ 9) ∧ sh_I (dC, dI) vcl cI cJ (gsC a he_ dp co li op wd_ tl lc_ fo sf_ lf_ nf) t.heap) ∨ (∃ (he_ : Int), ta_Ex "java/lang/IllegalStateException" x t ∧ okC he_ dp co li op wd tl lc fo sf lf nf ∧ (op ≤ 9) ∧ sh_I (dC, dI) vcl cI cJ (gsC a he_ dp co li op wd tl lc fo sf lf nf) t.heap)))
def rm_En_doMany : Room := { frames := 11, cells := 1, slots := 6, locals := 230 }
set_option maxHeartbeats 4000000 in
set_option maxRecDepth 100000 in
theorem c_En_doMany (l : Launch) (hfl : l.flags = pinnedFlags ++ [noTraceFlag]) (dC : Nat → ClassId) (dI : Nat → Nat → Nat) (cI cJ : ClassId) (a : Nat → Nat) (sz : Nat) (he dp co li op wd tl lc fo : Int) (sf lf nf : Nat → Int32) (x1 : Int32) (x2 : Int32) (x3 : Int32) (hok : okC he dp co li op wd tl lc fo sf lf nf) (hp0 : 0 ≤ x1.toInt) (hp1 : x1.toInt ≤ 65535) (hp2 : 0 ≤ x2.toInt) (hp3 : x2.toInt ≤ 65535) (hp4 : 0 ≤ x3.toInt) (hp5 : x3.toInt ≤ 65535) : tz_Met l ⟨"StoryMachine$Engine", "doMany", "(III)V"⟩ tw_tbl rm_En_doMany (tzP (dC, dI) vcl cI cJ (gsC a he dp co li op wd tl lc fo sf lf nf) a (adC a) [.ref (a 5), .int x1, .int x2, .int x3] sz) (tq_Q (q_En_doMany dC dI cI cJ a he dp co li op wd tl lc fo sf lf nf x1 x2 x3) (ga (adC a) sz)) 0 0 1 6 (ga (adC a) sz) := by
  refine tz_ofW (cc := prog_4_method_13_code) (maxL := 4) (ret := none) (by decide) (tx_isM mw_868) ?_
  intro p e s m args below meth c s₁ B hml hv
  obtain ⟨rfl, hsz, hI0, hK, hst0⟩ := hv
  have hx := B.exec
  have hb := B.bytes
  have hr := B.returns
  have hts := atoms_spec (ws := tw_tbl) B.pre
  have hown : s.vm.findClass "StoryMachine$Engine" = some m.cls := findClass_of_methodNamed B.named
  have hlocks := B.notSynchronized
  subst hsz
  have hst := fun (H : Heap) (locs : List Loc) (hS : va_S (ga (adC a) s.heap.size) s.heap H locs) (U : State) (hU : U.heap = H) (hW : s.WarmedH U.vm) => zS_all adC_map hI0 hst0 hS hU hW
  have hAC : ∀ q ∈ adC a, ga (adC a) s.heap.size q := fun q h => Or.inl h
  have hA0 : ∀ q, s.heap.size ≤ q → ga (adC a) s.heap.size q := fun q h => Or.inr h
  have hI : sI (dC, dI) vcl cI cJ (gsC a he dp co li op wd tl lc fo sf lf nf) (ga (adC a) s.heap.size) s.heap s.heap [] := ⟨hI0, va_S.rf⟩
  clear hI0 hst0
  have hl := lv_entry ([.ref (a 5), .int x1, .int x2, .int x3]) (n := 4) (Nat.le_of_ble_eq_true rfl)
  rw [lg_entry_eq]
  generalize (lg_sl ([.ref (a 5), .int x1, .int x2, .int x3]) ++ List.replicate (4 - (lg_sl ([.ref (a 5), .int x1, .int x2, .int x3])).length) Slot.unset).toArray = ls at hl ⊢
  have hl : lv_has ls 4 [(0, .ref (a 5)), (1, .int x1), (2, .int x2), (3, .int x3)] := hl
  generalize hZ : tz_MQ below (tq_Q (q_En_doMany dC dI cI cJ a he dp co li op wd tl lc fo sf lf nf x1 x2 x3) (ga (adC a) s.heap.size)) ([.ref (a 5), .int x1, .int x2, .int x3] : List Value).toArray s 0 0 1 6 (ga (adC a) s.heap.size) = Z
  obtain ⟨A, hAe⟩ : ∃ A, A = ga (adC a) s.heap.size := ⟨_, rfl⟩
  rw [← hAe] at hst hAC hA0 hI hZ
  refine sv_start hI (fun H locs hI => ?_)
  obtain ⟨⟨o1, o2⟩, ⟨o3, o4⟩, ⟨o5, o6⟩, ⟨o7, o8⟩, ⟨o9, o10⟩, ⟨o11, o12⟩, ⟨o13, o14⟩, ⟨o15, o16⟩, ⟨o17, o18⟩, o19, -, -⟩ := id hok
  have gx1 := sn_rng x1
  have gx2 := sn_rng x2
  have gx3 := sn_rng x3
  refine lv_aload_n hx hb d_En_doMany_0 rfl (lv_at hl 0 rfl) ?_
  refine sv_getr (C := "StoryMachine$Engine") (T := T_En) (N := 15) hx hb hts in_En hown hK hI 5 kC_5 rfl 7 (by decide) (hts _ mw_268) rfl d_En_doMany_1 ?_
  refine sv_gete (C := "StoryMachine$Instruction") (T := T_In) (N := 11) hx hb hts in_In hown hK hI 19 kC_19 rfl 5 (by decide) (hts _ mw_227) rfl d_En_doMany_4 (fun z20 hz20 => ?_)
  have w21 : W p l e (headSpec tw_tbl rm_En_doMany).room s m ([.ref (a 5), .int x1, .int x2, .int x3] : List Value).toArray below meth c H locs 0 0 Z (F0 m 208 ls []) := by
    subst hZ
    exact tz_ret (W.vret hx hb hr (fun t ht hW => ⟨⟨fun v9 hv9 => by cases hv9; exact (⟨he, dp, wd, lc, sf, lf, nf, rfl, hok, by rw [ht]; exact hI.1⟩), fun x9 hx9 => (by cases hx9)⟩, hI.2.F ht⟩) hI.2.2.2 d_En_doMany_208)
  by_cases b22 : z20.toInt = 0
  · refine sn_tin (v := 0) (off := 53) (tgt := 60) hx hb d_En_doMany_7 b22 (by decide) (by decide) (by decide) (by decide) ?_
    refine lv_aload_n hx hb d_En_doMany_60 rfl (lv_at hl 0 rfl) ?_
    refine lv_iload_n hx hb d_En_doMany_61 rfl (lv_at hl 1 rfl) ?_
    refine tz_call (A1 := ga (adC a) H.size) (tz_runV (C := "StoryMachine$Engine") (As := [.int x1]) (rest := []) ⟨hx, hb, hml, hown, hts⟩ (c_En_call l hfl dC dI cI cJ a H.size he dp co li op wd tl lc fo sf lf nf x1 hok (by omega) (by omega)) (tx_cb (n := 1) hts rfl rfl ⟨Nat.le_of_ble_eq_true rfl, Nat.le_of_ble_eq_true rfl⟩ (tx_code.of (hts _ mw_872)) (hts _ mw_6) (by decide +kernel) (hts _ mw_869)) (hts _ mw_871) (hts _ ms_En_call) ⟨tz_blind, sv_recv (q0 := 5) hts in_En hK hI kC_5 rfl, fun U hU hW => ⟨rfl, by rw [hU], by rw [hU]; exact hI.1, va_K.moved hW.alike hK, hst _ _ hI.2 U hU hW⟩⟩ rfl rfl hl.1 rfl (lv_room (Nat.le_of_ble_eq_true rfl)) d_En_doMany_62 ⟨Nat.le_of_ble_eq_true rfl, Nat.le_of_ble_eq_true rfl⟩) hI.2 (fun q _ h => ga_sub hAC hA0 hI.2 q h) (ga_sub hAC hA0 hI.2) (fun v t H1 locs1 ht hWt hpost _ _ hS => ?_) (fun x t H1 locs1 ht hWt hpost _ _ hS => ?_)
    · rcases hpost.1 _ rfl with ⟨t_he23, t_dp24, f_nf25, hv, c26, hI1⟩
      cases hv
      have hI : sI (dC, dI) vcl cI cJ (gsC a t_he23 t_dp24 co li op wd tl lc fo sf lf f_nf25) A s.heap H1 locs1 := ⟨by rw [← ht]; exact hI1, hS⟩
      obtain ⟨⟨o27, o28⟩, ⟨o29, o30⟩, -, -, -, -, -, -, -, -, -, -⟩ := id c26
      clear hpost hI1 hS ht hWt
      revert hI; generalize H1 = H; generalize locs1 = locs; intro hI
      refine lv_goto (tgt := 208) hx hb d_En_doMany_65 (by decide) ?_
      subst hZ
      exact tz_ret (W.vret hx hb hr (fun t ht hW => ⟨⟨fun v9 hv9 => by cases hv9; exact (⟨t_he23, t_dp24, wd, lc, sf, lf, f_nf25, rfl, c26, by rw [ht]; exact hI.1⟩), fun x9 hx9 => (by cases hx9)⟩, hI.2.F ht⟩) hI.2.2.2 d_En_doMany_208)
    · rcases hpost.2 _ rfl with ⟨hex, c31, hI1⟩ | ⟨hex, c32, hI1⟩
      · have hI : sI (dC, dI) vcl cI cJ (gsC a he dp co li op wd tl lc fo sf lf nf) A s.heap H1 locs1 := ⟨by rw [← ht]; exact hI1, hS⟩
        refine tz_widen (k := 1) (n := 6) (Nat.le_of_ble_eq_true rfl) (Nat.le_of_ble_eq_true rfl) ?_
        subst hZ
        exact tz_leave (tx_noH B (hts _ mw_868) _) (fun t9 ht9 hW9 => ⟨⟨fun v9 hv9 => (by cases hv9), fun x9 hx9 => by cases hx9; exact (Or.inl ⟨he, wd, lc, sf, lf, ta_exm hex ht ht9 hWt hW9, c31, by omega, by rw [ht9]; exact hI.1⟩)⟩, hI.2.F ht9⟩) hI.2.2.2 hlocks
      · have hI : sI (dC, dI) vcl cI cJ (gsC a he dp co li op wd tl lc fo sf lf nf) A s.heap H1 locs1 := ⟨by rw [← ht]; exact hI1, hS⟩
        refine tz_widen (k := 1) (n := 6) (Nat.le_of_ble_eq_true rfl) (Nat.le_of_ble_eq_true rfl) ?_
        subst hZ
        exact tz_leave (tx_noH B (hts _ mw_868) _) (fun t9 ht9 hW9 => ⟨⟨fun v9 hv9 => (by cases hv9), fun x9 hx9 => by cases hx9; exact (Or.inr (⟨he, ta_exm hex ht ht9 hWt hW9, c32, by omega, by rw [ht9]; exact hI.1⟩))⟩, hI.2.F ht9⟩) hI.2.2.2 hlocks
  by_cases b33 : z20.toInt = 1
  · refine sn_tin (v := 1) (off := 61) (tgt := 68) hx hb d_En_doMany_7 b33 (by decide) (by decide) (by decide) (by decide) ?_
    refine lv_aload_n hx hb d_En_doMany_68 rfl (lv_at hl 0 rfl) ?_
    refine sv_getr (C := "StoryMachine$Engine") (T := T_En) (N := 15) hx hb hts in_En hown hK hI 5 kC_5 rfl 0 (by decide) (hts _ mw_261) rfl d_En_doMany_69 ?_
    refine lv_iload_n hx hb d_En_doMany_72 rfl (lv_at hl 1 rfl) ?_
    refine sn_iconst hx hb d_En_doMany_73 (by decide) (fun z34 hz34 => ?_)
    refine lv_iload_n hx hb d_En_doMany_74 rfl (lv_at hl 2 rfl) ?_
    refine sn_imulL (k := 2) hx hb d_En_doMany_75 (by omega) (by omega) (by omega) (fun z35 hz35 => ?_)
    refine sn_iadd hx hb d_En_doMany_76 (by omega) (by omega) (fun z36 hz36 => ?_)
    refine lv_iload_n hx hb d_En_doMany_77 rfl (lv_at hl 3 rfl) ?_
    refine tz_call (A1 := ga (adC a) H.size) (tz_runV (C := "StoryMachine$Memory") (As := [.int z36, .int x3]) (rest := []) ⟨hx, hb, hml, hown, hts⟩ (c_Me_writeWord l hfl dC dI cI cJ a H.size he dp co li op wd tl lc fo sf lf nf z36 x3 hok) (tx_cb (n := 2) hts rfl rfl ⟨Nat.le_of_ble_eq_true rfl, Nat.le_of_ble_eq_true rfl⟩ (tx_code.of (hts _ mw_636)) (hts _ mw_2) (by decide +kernel) (hts _ mw_883)) (hts _ mw_634) (hts _ mw_635) ⟨tz_blind, sv_recv (q0 := 1) hts in_Me hK hI kC_1 rfl, fun U hU hW => ⟨rfl, by rw [hU], by rw [hU]; exact hI.1, va_K.moved hW.alike hK, hst _ _ hI.2 U hU hW⟩⟩ rfl rfl hl.1 rfl (lv_room (Nat.le_of_ble_eq_true rfl)) d_En_doMany_78 ⟨Nat.le_of_ble_eq_true rfl, Nat.le_of_ble_eq_true rfl⟩) hI.2 (fun q _ h => ga_sub hAC hA0 hI.2 q h) (ga_sub hAC hA0 hI.2) (fun v t H1 locs1 ht hWt hpost _ _ hS => ?_) (fun x t H1 locs1 ht hWt hpost _ _ hS => ?_)
    · rcases hpost.1 _ rfl with ⟨hv, c37, c37_0, c37_1, hI1⟩
      cases hv
      have hI : sI (dC, dI) vcl cI cJ (gsC a he dp co li op wd tl lc fo sf lf nf) A s.heap H1 locs1 := ⟨by rw [← ht]; exact hI1, hS⟩
      clear hpost hI1 hS ht hWt
      revert hI; generalize H1 = H; generalize locs1 = locs; intro hI
      refine lv_goto (tgt := 208) hx hb d_En_doMany_81 (by decide) ?_
      subst hZ
      exact tz_ret (W.vret hx hb hr (fun t ht hW => ⟨⟨fun v9 hv9 => by cases hv9; exact (⟨he, dp, wd, lc, sf, lf, nf, rfl, c37, by rw [ht]; exact hI.1⟩), fun x9 hx9 => (by cases hx9)⟩, hI.2.F ht⟩) hI.2.2.2 d_En_doMany_208)
    · rcases hpost.2 _ rfl with ⟨hex, c38, hI1⟩
      have hI : sI (dC, dI) vcl cI cJ (gsC a he dp co li op wd tl lc fo sf lf nf) A s.heap H1 locs1 := ⟨by rw [← ht]; exact hI1, hS⟩
      refine tz_widen (k := 1) (n := 6) (Nat.le_of_ble_eq_true rfl) (Nat.le_of_ble_eq_true rfl) ?_
      subst hZ
      exact tz_leave (tx_noH B (hts _ mw_868) _) (fun t9 ht9 hW9 => ⟨⟨fun v9 hv9 => (by cases hv9), fun x9 hx9 => by cases hx9; exact (Or.inl ⟨he, wd, lc, sf, lf, ta_exm hex ht ht9 hWt hW9, c38, by omega, by rw [ht9]; exact hI.1⟩)⟩, hI.2.F ht9⟩) hI.2.2.2 hlocks
  by_cases b39 : z20.toInt = 2
  · refine sn_tin (v := 2) (off := 77) (tgt := 84) hx hb d_En_doMany_7 b39 (by decide) (by decide) (by decide) (by decide) ?_
    refine lv_aload_n hx hb d_En_doMany_84 rfl (lv_at hl 0 rfl) ?_
    refine sv_getr (C := "StoryMachine$Engine") (T := T_En) (N := 15) hx hb hts in_En hown hK hI 5 kC_5 rfl 0 (by decide) (hts _ mw_261) rfl d_En_doMany_85 ?_
    refine lv_iload_n hx hb d_En_doMany_88 rfl (lv_at hl 1 rfl) ?_
    refine lv_iload_n hx hb d_En_doMany_89 rfl (lv_at hl 2 rfl) ?_
    refine sn_iadd hx hb d_En_doMany_90 (by omega) (by omega) (fun z40 hz40 => ?_)
    refine lv_iload_n hx hb d_En_doMany_91 rfl (lv_at hl 3 rfl) ?_
    refine tz_call (A1 := ga (adC a) H.size) (tz_runV (C := "StoryMachine$Memory") (As := [.int z40, .int x3]) (rest := []) ⟨hx, hb, hml, hown, hts⟩ (c_Me_writeByte l hfl dC dI cI cJ a H.size he dp co li op wd tl lc fo sf lf nf z40 x3 hok) (tx_cb (n := 2) hts rfl rfl ⟨Nat.le_of_ble_eq_true rfl, Nat.le_of_ble_eq_true rfl⟩ (tx_code.of (hts _ mw_781)) (hts _ mw_2) (by decide +kernel) (hts _ mw_884)) (hts _ mw_779) (hts _ mw_780) ⟨tz_blind, sv_recv (q0 := 1) hts in_Me hK hI kC_1 rfl, fun U hU hW => ⟨rfl, by rw [hU], by rw [hU]; exact hI.1, va_K.moved hW.alike hK, hst _ _ hI.2 U hU hW⟩⟩ rfl rfl hl.1 rfl (lv_room (Nat.le_of_ble_eq_true rfl)) d_En_doMany_92 ⟨Nat.le_of_ble_eq_true rfl, Nat.le_of_ble_eq_true rfl⟩) hI.2 (fun q _ h => ga_sub hAC hA0 hI.2 q h) (ga_sub hAC hA0 hI.2) (fun v t H1 locs1 ht hWt hpost _ _ hS => ?_) (fun x t H1 locs1 ht hWt hpost _ _ hS => ?_)
    · rcases hpost.1 _ rfl with ⟨hv, c41, c41_0, c41_1, hI1⟩
      cases hv
      have hI : sI (dC, dI) vcl cI cJ (gsC a he dp co li op wd tl lc fo sf lf nf) A s.heap H1 locs1 := ⟨by rw [← ht]; exact hI1, hS⟩
      clear hpost hI1 hS ht hWt
      revert hI; generalize H1 = H; generalize locs1 = locs; intro hI
      refine lv_goto (tgt := 208) hx hb d_En_doMany_95 (by decide) ?_
      subst hZ
      exact tz_ret (W.vret hx hb hr (fun t ht hW => ⟨⟨fun v9 hv9 => by cases hv9; exact (⟨he, dp, wd, lc, sf, lf, nf, rfl, c41, by rw [ht]; exact hI.1⟩), fun x9 hx9 => (by cases hx9)⟩, hI.2.F ht⟩) hI.2.2.2 d_En_doMany_208)
    · rcases hpost.2 _ rfl with ⟨hex, c42, hI1⟩
      have hI : sI (dC, dI) vcl cI cJ (gsC a he dp co li op wd tl lc fo sf lf nf) A s.heap H1 locs1 := ⟨by rw [← ht]; exact hI1, hS⟩
      refine tz_widen (k := 1) (n := 6) (Nat.le_of_ble_eq_true rfl) (Nat.le_of_ble_eq_true rfl) ?_
      subst hZ
      exact tz_leave (tx_noH B (hts _ mw_868) _) (fun t9 ht9 hW9 => ⟨⟨fun v9 hv9 => (by cases hv9), fun x9 hx9 => by cases hx9; exact (Or.inl ⟨he, wd, lc, sf, lf, ta_exm hex ht ht9 hWt hW9, c42, by omega, by rw [ht9]; exact hI.1⟩)⟩, hI.2.F ht9⟩) hI.2.2.2 hlocks
  by_cases b43 : z20.toInt = 3
  · refine sn_tin (v := 3) (off := 91) (tgt := 98) hx hb d_En_doMany_7 b43 (by decide) (by decide) (by decide) (by decide) ?_
    refine lv_aload_n hx hb d_En_doMany_98 rfl (lv_at hl 0 rfl) ?_
    refine sv_getr (C := "StoryMachine$Engine") (T := T_En) (N := 15) hx hb hts in_En hown hK hI 5 kC_5 rfl 5 (by decide) (hts _ mw_266) rfl d_En_doMany_99 ?_
    refine lv_aload_n hx hb d_En_doMany_102 rfl (lv_at hl 0 rfl) ?_
    refine sv_getr (C := "StoryMachine$Engine") (T := T_En) (N := 15) hx hb hts in_En hown hK hI 5 kC_5 rfl 5 (by decide) (hts _ mw_266) rfl d_En_doMany_103 ?_
    refine lv_iload_n hx hb d_En_doMany_106 rfl (lv_at hl 1 rfl) ?_
    refine tz_call (A1 := ga (adC a) H.size) (tz_runV (C := "StoryMachine$Tree") (As := [.int x1]) (rest := [.ref (a 17)]) ⟨hx, hb, hml, hown, hts⟩ (c_Tr_properties l hfl dC dI cI cJ a H.size he dp co li op wd tl lc fo sf lf nf x1 hok) (tx_cb (n := 1) hts rfl rfl ⟨Nat.le_of_ble_eq_true rfl, Nat.le_of_ble_eq_true rfl⟩ (tx_code.of (hts _ mw_819)) (hts _ mw_9) (by decide +kernel) (hts _ mw_816)) (hts _ mw_817) (hts _ mw_818) ⟨tz_blind, sv_recv (q0 := 17) hts in_Tr hK hI kC_17 rfl, fun U hU hW => ⟨rfl, by rw [hU], by rw [hU]; exact hI.1, va_K.moved hW.alike hK, hst _ _ hI.2 U hU hW⟩⟩ rfl rfl hl.1 rfl (lv_room (Nat.le_of_ble_eq_true rfl)) d_En_doMany_107 ⟨Nat.le_of_ble_eq_true rfl, Nat.le_of_ble_eq_true rfl⟩) hI.2 (fun q _ h => ga_sub hAC hA0 hI.2 q h) (ga_sub hAC hA0 hI.2) (fun v t H1 locs1 ht hWt hpost _ _ hS => ?_) (fun x t H1 locs1 ht hWt hpost _ _ hS => ?_)
    · rcases hpost.1 _ rfl with ⟨z44, hv, c45, c45_0, c45_1, c45_2, c45_3, hI1⟩
      cases hv
      have hI : sI (dC, dI) vcl cI cJ (gsC a he dp co li op wd tl lc fo sf lf nf) A s.heap H1 locs1 := ⟨by rw [← ht]; exact hI1, hS⟩
      clear hpost hI1 hS ht hWt
      revert hI; generalize H1 = H; generalize locs1 = locs; intro hI
      refine lv_iload_n hx hb d_En_doMany_110 rfl (lv_at hl 2 rfl) ?_
      refine lv_iload_n hx hb d_En_doMany_111 rfl (lv_at hl 3 rfl) ?_
      refine tz_call (A1 := ga (adC a) H.size) (tz_runV (C := "StoryMachine$Tree") (As := [.int z44, .int x2, .int x3]) (rest := []) ⟨hx, hb, hml, hown, hts⟩ (c_Tr_setProperty l hfl dC dI cI cJ a H.size he dp co li op wd tl lc fo sf lf nf z44 x2 x3 c45) (tx_cb (n := 3) hts rfl rfl ⟨Nat.le_of_ble_eq_true rfl, Nat.le_of_ble_eq_true rfl⟩ (tx_code.of (hts _ mw_888)) (hts _ mw_9) (by decide +kernel) (hts _ mw_885)) (hts _ mw_886) (hts _ mw_887) ⟨tz_blind, sv_recv (q0 := 17) hts in_Tr hK hI kC_17 rfl, fun U hU hW => ⟨rfl, by rw [hU], by rw [hU]; exact hI.1, va_K.moved hW.alike hK, hst _ _ hI.2 U hU hW⟩⟩ rfl rfl hl.1 rfl (lv_room (Nat.le_of_ble_eq_true rfl)) d_En_doMany_112 ⟨Nat.le_of_ble_eq_true rfl, Nat.le_of_ble_eq_true rfl⟩) hI.2 (fun q _ h => ga_sub hAC hA0 hI.2 q h) (ga_sub hAC hA0 hI.2) (fun v t H1 locs1 ht hWt hpost _ _ hS => ?_) (fun x t H1 locs1 ht hWt hpost _ _ hS => ?_)
      · rcases hpost.1 _ rfl with ⟨hv, c46, hI1⟩
        cases hv
        have hI : sI (dC, dI) vcl cI cJ (gsC a he dp co li op wd tl lc fo sf lf nf) A s.heap H1 locs1 := ⟨by rw [← ht]; exact hI1, hS⟩
        clear hpost hI1 hS ht hWt
        revert hI; generalize H1 = H; generalize locs1 = locs; intro hI
        refine lv_goto (tgt := 208) hx hb d_En_doMany_115 (by decide) ?_
        subst hZ
        exact tz_ret (W.vret hx hb hr (fun t ht hW => ⟨⟨fun v9 hv9 => by cases hv9; exact (⟨he, dp, wd, lc, sf, lf, nf, rfl, c46, by rw [ht]; exact hI.1⟩), fun x9 hx9 => (by cases hx9)⟩, hI.2.F ht⟩) hI.2.2.2 d_En_doMany_208)
      · rcases hpost.2 _ rfl with ⟨hex, c47, hI1⟩
        have hI : sI (dC, dI) vcl cI cJ (gsC a he dp co li op wd tl lc fo sf lf nf) A s.heap H1 locs1 := ⟨by rw [← ht]; exact hI1, hS⟩
        refine tz_widen (k := 1) (n := 6) (Nat.le_of_ble_eq_true rfl) (Nat.le_of_ble_eq_true rfl) ?_
        subst hZ
        exact tz_leave (tx_noH B (hts _ mw_868) _) (fun t9 ht9 hW9 => ⟨⟨fun v9 hv9 => (by cases hv9), fun x9 hx9 => by cases hx9; exact (Or.inl ⟨he, wd, lc, sf, lf, ta_exm hex ht ht9 hWt hW9, c47, by omega, by rw [ht9]; exact hI.1⟩)⟩, hI.2.F ht9⟩) hI.2.2.2 hlocks
    · rcases hpost.2 _ rfl with ⟨hex, c48, hI1⟩
      have hI : sI (dC, dI) vcl cI cJ (gsC a he dp co li op wd tl lc fo sf lf nf) A s.heap H1 locs1 := ⟨by rw [← ht]; exact hI1, hS⟩
      refine tz_widen (k := 1) (n := 6) (Nat.le_of_ble_eq_true rfl) (Nat.le_of_ble_eq_true rfl) ?_
      subst hZ
      exact tz_leave (tx_noH B (hts _ mw_868) _) (fun t9 ht9 hW9 => ⟨⟨fun v9 hv9 => (by cases hv9), fun x9 hx9 => by cases hx9; exact (Or.inl ⟨he, wd, lc, sf, lf, ta_exm hex ht ht9 hWt hW9, c48, by omega, by rw [ht9]; exact hI.1⟩)⟩, hI.2.F ht9⟩) hI.2.2.2 hlocks
  by_cases b49 : z20.toInt = 4
  · refine sn_tin (v := 4) (off := 111) (tgt := 118) hx hb d_En_doMany_7 b49 (by decide) (by decide) (by decide) (by decide) ?_
    refine lv_aload_n hx hb d_En_doMany_118 rfl (lv_at hl 0 rfl) ?_
    refine lv_iload_n hx hb d_En_doMany_119 rfl (lv_at hl 1 rfl) ?_
    refine lv_iload_n hx hb d_En_doMany_120 rfl (lv_at hl 2 rfl) ?_
    refine tz_call (A1 := ga (adC a) H.size) (tz_runV (C := "StoryMachine$Engine") (As := [.int x1, .int x2]) (rest := []) ⟨hx, hb, hml, hown, hts⟩ (c_En_readLine l hfl dC dI cI cJ a H.size he dp co li op wd tl lc fo sf lf nf x1 x2 hok (by omega) (by omega) (by omega) (by omega)) (tx_cb (n := 2) hts rfl rfl ⟨Nat.le_of_ble_eq_true rfl, Nat.le_of_ble_eq_true rfl⟩ (tx_code.of (hts _ mw_893)) (hts _ mw_6) (by decide +kernel) (hts _ mw_890)) (hts _ mw_892) (hts _ ms_En_readLine) ⟨tz_blind, sv_recv (q0 := 5) hts in_En hK hI kC_5 rfl, fun U hU hW => ⟨rfl, by rw [hU], by rw [hU]; exact hI.1, va_K.moved hW.alike hK, hst _ _ hI.2 U hU hW⟩⟩ rfl rfl hl.1 rfl (lv_room (Nat.le_of_ble_eq_true rfl)) d_En_doMany_121 ⟨Nat.le_of_ble_eq_true rfl, Nat.le_of_ble_eq_true rfl⟩) hI.2 (fun q _ h => ga_sub hAC hA0 hI.2 q h) (ga_sub hAC hA0 hI.2) (fun v t H1 locs1 ht hWt hpost _ _ hS => ?_) (fun x t H1 locs1 ht hWt hpost _ _ hS => ?_)
    · rcases hpost.1 _ rfl with ⟨t_wd50, t_lc51, f_sf52, f_lf53, hv, c54, c54_0, c54_1, hI1⟩
      cases hv
      have hI : sI (dC, dI) vcl cI cJ (gsC a he dp co li op t_wd50 tl t_lc51 fo f_sf52 f_lf53 nf) A s.heap H1 locs1 := ⟨by rw [← ht]; exact hI1, hS⟩
      obtain ⟨-, -, -, -, -, ⟨o55, o56⟩, -, ⟨o57, o58⟩, -, -, -, -⟩ := id c54
      clear hpost hI1 hS ht hWt
      revert hI; generalize H1 = H; generalize locs1 = locs; intro hI
      refine lv_goto (tgt := 208) hx hb d_En_doMany_124 (by decide) ?_
      subst hZ
      exact tz_ret (W.vret hx hb hr (fun t ht hW => ⟨⟨fun v9 hv9 => by cases hv9; exact (⟨he, dp, t_wd50, t_lc51, f_sf52, f_lf53, nf, rfl, c54, by rw [ht]; exact hI.1⟩), fun x9 hx9 => (by cases hx9)⟩, hI.2.F ht⟩) hI.2.2.2 d_En_doMany_208)
    · rcases hpost.2 _ rfl with ⟨t_wd59, t_lc60, f_sf61, f_lf62, hex, c63, hI1⟩
      have hI : sI (dC, dI) vcl cI cJ (gsC a he dp co li op t_wd59 tl t_lc60 fo f_sf61 f_lf62 nf) A s.heap H1 locs1 := ⟨by rw [← ht]; exact hI1, hS⟩
      obtain ⟨-, -, -, -, -, ⟨o64, o65⟩, -, ⟨o66, o67⟩, -, -, -, -⟩ := id c63
      refine tz_widen (k := 1) (n := 6) (Nat.le_of_ble_eq_true rfl) (Nat.le_of_ble_eq_true rfl) ?_
      subst hZ
      exact tz_leave (tx_noH B (hts _ mw_868) _) (fun t9 ht9 hW9 => ⟨⟨fun v9 hv9 => (by cases hv9), fun x9 hx9 => by cases hx9; exact (Or.inl ⟨he, t_wd59, t_lc60, f_sf61, f_lf62, ta_exm hex ht ht9 hWt hW9, c63, by omega, by rw [ht9]; exact hI.1⟩)⟩, hI.2.F ht9⟩) hI.2.2.2 hlocks
  by_cases b68 : z20.toInt = 5
  · refine sn_tin (v := 5) (off := 120) (tgt := 127) hx hb d_En_doMany_7 b68 (by decide) (by decide) (by decide) (by decide) ?_
    refine lv_aload_n hx hb d_En_doMany_127 rfl (lv_at hl 0 rfl) ?_
    refine sv_getr (C := "StoryMachine$Engine") (T := T_En) (N := 15) hx hb hts in_En hown hK hI 5 kC_5 rfl 3 (by decide) (hts _ mw_264) rfl d_En_doMany_128 ?_
    refine lv_iload_n hx hb d_En_doMany_131 rfl (lv_at hl 1 rfl) ?_
    refine sn_sipush hx hb d_En_doMany_132 (by decide) (fun z69 hz69 => ?_)
    refine sn_iand (k := 8) (M := 255) hx hb d_En_doMany_135 (by decide) (by decide) (by omega) (fun z70 hz70a hz70b hz70c => ?_)
    clear hz70c
    refine tz_call (A1 := ga (adC a) H.size) (tz_runV (C := "StoryMachine$Printer") (As := [.int z70]) (rest := []) ⟨hx, hb, hml, hown, hts⟩ (c_Pr_put l hfl dC dI cI cJ a H.size he dp co li op wd tl lc fo sf lf nf z70 hok) (tx_cb (n := 1) hts rfl rfl ⟨Nat.le_of_ble_eq_true rfl, Nat.le_of_ble_eq_true rfl⟩ (tx_code.of (hts _ mw_653)) (hts _ mw_5) (by decide +kernel) (hts _ mw_702)) (hts _ mw_651) (hts _ mw_652) ⟨tz_blind, sv_recv (q0 := 4) hts in_Pr hK hI kC_4 rfl, fun U hU hW => ⟨rfl, by rw [hU], by rw [hU]; exact hI.1, va_K.moved hW.alike hK, hst _ _ hI.2 U hU hW⟩⟩ rfl rfl hl.1 rfl (lv_room (Nat.le_of_ble_eq_true rfl)) d_En_doMany_136 ⟨Nat.le_of_ble_eq_true rfl, Nat.le_of_ble_eq_true rfl⟩) hI.2 (fun q _ h => ga_sub hAC hA0 hI.2 q h) (ga_sub hAC hA0 hI.2) (fun v t H1 locs1 ht hWt hpost _ _ hS => ?_) (fun x t H1 locs1 ht hWt hpost _ _ hS => (hpost.2 x rfl).elim)
    rcases hpost.1 _ rfl with ⟨hv, c71, hI1⟩
    cases hv
    have hI : sI (dC, dI) vcl cI cJ (gsC a he dp co li op wd tl lc fo sf lf nf) A s.heap H1 locs1 := ⟨by rw [← ht]; exact hI1, hS⟩
    clear hpost hI1 hS ht hWt
    revert hI; generalize H1 = H; generalize locs1 = locs; intro hI
    refine lv_goto (tgt := 208) hx hb d_En_doMany_139 (by decide) ?_
    subst hZ
    exact tz_ret (W.vret hx hb hr (fun t ht hW => ⟨⟨fun v9 hv9 => by cases hv9; exact (⟨he, dp, wd, lc, sf, lf, nf, rfl, c71, by rw [ht]; exact hI.1⟩), fun x9 hx9 => (by cases hx9)⟩, hI.2.F ht⟩) hI.2.2.2 d_En_doMany_208)
  by_cases b72 : z20.toInt = 6
  · refine sn_tin (v := 6) (off := 135) (tgt := 142) hx hb d_En_doMany_7 b72 (by decide) (by decide) (by decide) (by decide) ?_
    refine lv_aload_n hx hb d_En_doMany_142 rfl (lv_at hl 0 rfl) ?_
    refine sv_getr (C := "StoryMachine$Engine") (T := T_En) (N := 15) hx hb hts in_En hown hK hI 5 kC_5 rfl 3 (by decide) (hts _ mw_264) rfl d_En_doMany_143 ?_
    refine lv_iload_n hx hb d_En_doMany_146 rfl (lv_at hl 1 rfl) ?_
    refine sn_i2s hx hb d_En_doMany_147 (fun z73 hz73a hz73b hz73c => ?_)
    refine tz_call (A1 := ga (adC a) H.size) (tz_runV (C := "StoryMachine$Printer") (As := [.int z73]) (rest := []) ⟨hx, hb, hml, hown, hts⟩ (c_Pr_putNumber l hfl dC dI cI cJ a H.size he dp co li op wd tl lc fo sf lf nf z73 hok) (tx_cb (n := 1) hts rfl rfl ⟨Nat.le_of_ble_eq_true rfl, Nat.le_of_ble_eq_true rfl⟩ (tx_code.of (hts _ mw_1002)) (hts _ mw_5) (by decide +kernel) (hts _ mw_999)) (hts _ mw_1000) (hts _ mw_1001) ⟨tz_blind, sv_recv (q0 := 4) hts in_Pr hK hI kC_4 rfl, fun U hU hW => ⟨rfl, by rw [hU], by rw [hU]; exact hI.1, va_K.moved hW.alike hK, hst _ _ hI.2 U hU hW⟩⟩ rfl rfl hl.1 rfl (lv_room (Nat.le_of_ble_eq_true rfl)) d_En_doMany_148 ⟨Nat.le_of_ble_eq_true rfl, Nat.le_of_ble_eq_true rfl⟩) hI.2 (fun q _ h => ga_sub hAC hA0 hI.2 q h) (ga_sub hAC hA0 hI.2) (fun v t H1 locs1 ht hWt hpost _ _ hS => ?_) (fun x t H1 locs1 ht hWt hpost _ _ hS => (hpost.2 x rfl).elim)
    rcases hpost.1 _ rfl with ⟨hv, c74, hI1⟩
    cases hv
    have hI : sI (dC, dI) vcl cI cJ (gsC a he dp co li op wd tl lc fo sf lf nf) A s.heap H1 locs1 := ⟨by rw [← ht]; exact hI1, hS⟩
    clear hpost hI1 hS ht hWt
    revert hI; generalize H1 = H; generalize locs1 = locs; intro hI
    refine lv_goto (tgt := 208) hx hb d_En_doMany_151 (by decide) ?_
    subst hZ
    exact tz_ret (W.vret hx hb hr (fun t ht hW => ⟨⟨fun v9 hv9 => by cases hv9; exact (⟨he, dp, wd, lc, sf, lf, nf, rfl, c74, by rw [ht]; exact hI.1⟩), fun x9 hx9 => (by cases hx9)⟩, hI.2.F ht⟩) hI.2.2.2 d_En_doMany_208)
  by_cases b75 : z20.toInt = 7
  · refine sn_tin (v := 7) (off := 147) (tgt := 154) hx hb d_En_doMany_7 b75 (by decide) (by decide) (by decide) (by decide) ?_
    refine lv_aload_n hx hb d_En_doMany_154 rfl (lv_at hl 0 rfl) ?_
    refine sv_getr (C := "StoryMachine$Engine") (T := T_En) (N := 15) hx hb hts in_En hown hK hI 5 kC_5 rfl 4 (by decide) (hts _ mw_265) rfl d_En_doMany_155 ?_
    refine lv_aload_n hx hb d_En_doMany_158 rfl (lv_at hl 0 rfl) ?_
    refine sv_getr (C := "StoryMachine$Engine") (T := T_En) (N := 15) hx hb hts in_En hown hK hI 5 kC_5 rfl 7 (by decide) (hts _ mw_268) rfl d_En_doMany_159 ?_
    refine sv_get (C := "StoryMachine$Instruction") (T := T_In) (N := 11) hx hb hts in_In hown hK hI 19 kC_19 rfl 7 (by decide) (hts _ mw_232) rfl d_En_doMany_162 (fun z76 hz76a hz76b => ?_)
    refine lv_aload_n hx hb d_En_doMany_165 rfl (lv_at hl 0 rfl) ?_
    refine lv_iload_n hx hb d_En_doMany_166 rfl (lv_at hl 1 rfl) ?_
    refine sn_i2s hx hb d_En_doMany_167 (fun z77 hz77a hz77b hz77c => ?_)
    refine tz_call (A1 := ga (adC a) H.size) (tz_runV (C := "StoryMachine$Engine") (As := [.int z77]) (rest := [.int z76, .ref (a 16)]) ⟨hx, hb, hml, hown, hts⟩ (c_En_randomNumber l hfl dC dI cI cJ a H.size he dp co li op wd tl lc fo sf lf nf z77 hok (by omega) (by omega)) (tx_cb (n := 1) hts rfl rfl ⟨Nat.le_of_ble_eq_true rfl, Nat.le_of_ble_eq_true rfl⟩ (tx_code.of (hts _ mw_1009)) (hts _ mw_6) (by decide +kernel) (hts _ mw_1006)) (hts _ mw_1008) (hts _ ms_En_randomNumber) ⟨tz_blind, sv_recv (q0 := 5) hts in_En hK hI kC_5 rfl, fun U hU hW => ⟨rfl, by rw [hU], by rw [hU]; exact hI.1, va_K.moved hW.alike hK, hst _ _ hI.2 U hU hW⟩⟩ rfl rfl hl.1 rfl (lv_room (Nat.le_of_ble_eq_true rfl)) d_En_doMany_168 ⟨Nat.le_of_ble_eq_true rfl, Nat.le_of_ble_eq_true rfl⟩) hI.2 (fun q _ h => ga_sub hAC hA0 hI.2 q h) (ga_sub hAC hA0 hI.2) (fun v t H1 locs1 ht hWt hpost _ _ hS => ?_) (fun x t H1 locs1 ht hWt hpost _ _ hS => (hpost.2 x rfl).elim)
    rcases hpost.1 _ rfl with ⟨z78, hv, c79, c79_0, c79_1, hI1⟩
    cases hv
    have hI : sI (dC, dI) vcl cI cJ (gsC a he dp co li op wd tl lc fo sf lf nf) A s.heap H1 locs1 := ⟨by rw [← ht]; exact hI1, hS⟩
    clear hpost hI1 hS ht hWt
    revert hI; generalize H1 = H; generalize locs1 = locs; intro hI
    refine sn_iconst hx hb d_En_doMany_171 (by decide) (fun z80 hz80 => ?_)
    refine tz_call (A1 := ga (adC a) H.size) (tz_runV (C := "StoryMachine$Variables") (As := [.int z76, .int z78, .int z80]) (rest := []) ⟨hx, hb, hml, hown, hts⟩ (c_Va_write l hfl dC dI cI cJ a H.size he dp co li op wd tl lc fo sf lf nf z76 z78 z80 c79) (tx_cb (n := 3) hts rfl rfl ⟨Nat.le_of_ble_eq_true rfl, Nat.le_of_ble_eq_true rfl⟩ (tx_code.of (hts _ mw_619)) (hts _ mw_8) (by decide +kernel) (hts _ mw_616)) (hts _ mw_617) (hts _ mw_618) ⟨tz_blind, sv_recv (q0 := 16) hts in_Va hK hI kC_16 rfl, fun U hU hW => ⟨rfl, by rw [hU], by rw [hU]; exact hI.1, va_K.moved hW.alike hK, hst _ _ hI.2 U hU hW⟩⟩ rfl rfl hl.1 rfl (lv_room (Nat.le_of_ble_eq_true rfl)) d_En_doMany_172 ⟨Nat.le_of_ble_eq_true rfl, Nat.le_of_ble_eq_true rfl⟩) hI.2 (fun q _ h => ga_sub hAC hA0 hI.2 q h) (ga_sub hAC hA0 hI.2) (fun v t H1 locs1 ht hWt hpost _ _ hS => ?_) (fun x t H1 locs1 ht hWt hpost _ _ hS => ?_)
    · rcases hpost.1 _ rfl with ⟨t_he81, hv, c82, c82_0, c82_1, hI1⟩
      cases hv
      have hI : sI (dC, dI) vcl cI cJ (gsC a t_he81 dp co li op wd tl lc fo sf lf nf) A s.heap H1 locs1 := ⟨by rw [← ht]; exact hI1, hS⟩
      obtain ⟨⟨o83, o84⟩, -, -, -, -, -, -, -, -, -, -, -⟩ := id c82
      clear hpost hI1 hS ht hWt
      revert hI; generalize H1 = H; generalize locs1 = locs; intro hI
      refine lv_goto (tgt := 208) hx hb d_En_doMany_175 (by decide) ?_
      subst hZ
      exact tz_ret (W.vret hx hb hr (fun t ht hW => ⟨⟨fun v9 hv9 => by cases hv9; exact (⟨t_he81, dp, wd, lc, sf, lf, nf, rfl, c82, by rw [ht]; exact hI.1⟩), fun x9 hx9 => (by cases hx9)⟩, hI.2.F ht⟩) hI.2.2.2 d_En_doMany_208)
    · rcases hpost.2 _ rfl with ⟨hex, c85, hI1⟩ | ⟨hex, c86, c86_0, c86_1, hI1⟩
      · have hI : sI (dC, dI) vcl cI cJ (gsC a he dp co li op wd tl lc fo sf lf nf) A s.heap H1 locs1 := ⟨by rw [← ht]; exact hI1, hS⟩
        refine tz_widen (k := 1) (n := 6) (Nat.le_of_ble_eq_true rfl) (Nat.le_of_ble_eq_true rfl) ?_
        subst hZ
        exact tz_leave (tx_noH B (hts _ mw_868) _) (fun t9 ht9 hW9 => ⟨⟨fun v9 hv9 => (by cases hv9), fun x9 hx9 => by cases hx9; exact (Or.inl ⟨he, wd, lc, sf, lf, ta_exm hex ht ht9 hWt hW9, c85, by omega, by rw [ht9]; exact hI.1⟩)⟩, hI.2.F ht9⟩) hI.2.2.2 hlocks
      · have hI : sI (dC, dI) vcl cI cJ (gsC a he dp co li op wd tl lc fo sf lf nf) A s.heap H1 locs1 := ⟨by rw [← ht]; exact hI1, hS⟩
        refine tz_widen (k := 1) (n := 6) (Nat.le_of_ble_eq_true rfl) (Nat.le_of_ble_eq_true rfl) ?_
        subst hZ
        exact tz_leave (tx_noH B (hts _ mw_868) _) (fun t9 ht9 hW9 => ⟨⟨fun v9 hv9 => (by cases hv9), fun x9 hx9 => by cases hx9; exact (Or.inr (⟨he, ta_exm hex ht ht9 hWt hW9, c86, by omega, by rw [ht9]; exact hI.1⟩))⟩, hI.2.F ht9⟩) hI.2.2.2 hlocks
  by_cases b87 : z20.toInt = 8
  · refine sn_tin (v := 8) (off := 171) (tgt := 178) hx hb d_En_doMany_7 b87 (by decide) (by decide) (by decide) (by decide) ?_
    refine lv_aload_n hx hb d_En_doMany_178 rfl (lv_at hl 0 rfl) ?_
    refine sv_getr (C := "StoryMachine$Engine") (T := T_En) (N := 15) hx hb hts in_En hown hK hI 5 kC_5 rfl 2 (by decide) (hts _ mw_263) rfl d_En_doMany_179 ?_
    refine lv_iload_n hx hb d_En_doMany_182 rfl (lv_at hl 1 rfl) ?_
    refine tz_call (A1 := ga (adC a) H.size) (tz_runV (C := "StoryMachine$Routines") (As := [.int x1]) (rest := []) ⟨hx, hb, hml, hown, hts⟩ (c_Ro_push l hfl dC dI cI cJ a H.size he dp co li op wd tl lc fo sf lf nf x1 hok) (tx_cb (n := 1) hts rfl rfl ⟨Nat.le_of_ble_eq_true rfl, Nat.le_of_ble_eq_true rfl⟩ (tx_code.of (hts _ mw_628)) (hts _ mw_4) (by decide +kernel) (hts _ mw_1010)) (hts _ mw_626) (hts _ mw_627) ⟨tz_blind, sv_recv (q0 := 3) hts in_Ro hK hI kC_3 rfl, fun U hU hW => ⟨rfl, by rw [hU], by rw [hU]; exact hI.1, va_K.moved hW.alike hK, hst _ _ hI.2 U hU hW⟩⟩ rfl rfl hl.1 rfl (lv_room (Nat.le_of_ble_eq_true rfl)) d_En_doMany_183 ⟨Nat.le_of_ble_eq_true rfl, Nat.le_of_ble_eq_true rfl⟩) hI.2 (fun q _ h => ga_sub hAC hA0 hI.2 q h) (ga_sub hAC hA0 hI.2) (fun v t H1 locs1 ht hWt hpost _ _ hS => ?_) (fun x t H1 locs1 ht hWt hpost _ _ hS => ?_)
    · rcases hpost.1 _ rfl with ⟨t_he88, hv, c89, c89_0, c89_1, hI1⟩
      cases hv
      have hI : sI (dC, dI) vcl cI cJ (gsC a t_he88 dp co li op wd tl lc fo sf lf nf) A s.heap H1 locs1 := ⟨by rw [← ht]; exact hI1, hS⟩
      obtain ⟨⟨o90, o91⟩, -, -, -, -, -, -, -, -, -, -, -⟩ := id c89
      clear hpost hI1 hS ht hWt
      revert hI; generalize H1 = H; generalize locs1 = locs; intro hI
      refine lv_goto (tgt := 208) hx hb d_En_doMany_186 (by decide) ?_
      subst hZ
      exact tz_ret (W.vret hx hb hr (fun t ht hW => ⟨⟨fun v9 hv9 => by cases hv9; exact (⟨t_he88, dp, wd, lc, sf, lf, nf, rfl, c89, by rw [ht]; exact hI.1⟩), fun x9 hx9 => (by cases hx9)⟩, hI.2.F ht⟩) hI.2.2.2 d_En_doMany_208)
    · rcases hpost.2 _ rfl with ⟨hex, c92, c92_0, hI1⟩
      have hI : sI (dC, dI) vcl cI cJ (gsC a he dp co li op wd tl lc fo sf lf nf) A s.heap H1 locs1 := ⟨by rw [← ht]; exact hI1, hS⟩
      refine tz_widen (k := 1) (n := 6) (Nat.le_of_ble_eq_true rfl) (Nat.le_of_ble_eq_true rfl) ?_
      subst hZ
      exact tz_leave (tx_noH B (hts _ mw_868) _) (fun t9 ht9 hW9 => ⟨⟨fun v9 hv9 => (by cases hv9), fun x9 hx9 => by cases hx9; exact (Or.inr (⟨he, ta_exm hex ht ht9 hWt hW9, c92, by omega, by rw [ht9]; exact hI.1⟩))⟩, hI.2.F ht9⟩) hI.2.2.2 hlocks
  by_cases b93 : z20.toInt = 9
  · refine sn_tin (v := 9) (off := 182) (tgt := 189) hx hb d_En_doMany_7 b93 (by decide) (by decide) (by decide) (by decide) ?_
    refine lv_aload_n hx hb d_En_doMany_189 rfl (lv_at hl 0 rfl) ?_
    refine sv_getr (C := "StoryMachine$Engine") (T := T_En) (N := 15) hx hb hts in_En hown hK hI 5 kC_5 rfl 4 (by decide) (hts _ mw_265) rfl d_En_doMany_190 ?_
    refine lv_iload_n hx hb d_En_doMany_193 rfl (lv_at hl 1 rfl) ?_
    refine lv_aload_n hx hb d_En_doMany_194 rfl (lv_at hl 0 rfl) ?_
    refine sv_getr (C := "StoryMachine$Engine") (T := T_En) (N := 15) hx hb hts in_En hown hK hI 5 kC_5 rfl 2 (by decide) (hts _ mw_263) rfl d_En_doMany_195 ?_
    refine tz_call (A1 := ga (adC a) H.size) (tz_runV (C := "StoryMachine$Routines") (As := []) (rest := [.int x1, .ref (a 16)]) ⟨hx, hb, hml, hown, hts⟩ (c_Ro_pop l hfl dC dI cI cJ a H.size he dp co li op wd tl lc fo sf lf nf  hok) (tx_cb (n := 0) hts rfl rfl ⟨Nat.le_of_ble_eq_true rfl, Nat.le_of_ble_eq_true rfl⟩ (tx_code.of (hts _ mw_548)) (hts _ mw_4) (by decide +kernel) (hts _ mw_727)) (hts _ mw_546) (hts _ mw_547) ⟨tz_blind, sv_recv (q0 := 3) hts in_Ro hK hI kC_3 rfl, fun U hU hW => ⟨rfl, by rw [hU], by rw [hU]; exact hI.1, va_K.moved hW.alike hK, hst _ _ hI.2 U hU hW⟩⟩ rfl rfl hl.1 rfl (lv_room (Nat.le_of_ble_eq_true rfl)) d_En_doMany_198 ⟨Nat.le_of_ble_eq_true rfl, Nat.le_of_ble_eq_true rfl⟩) hI.2 (fun q _ h => ga_sub hAC hA0 hI.2 q h) (ga_sub hAC hA0 hI.2) (fun v t H1 locs1 ht hWt hpost _ _ hS => ?_) (fun x t H1 locs1 ht hWt hpost _ _ hS => ?_)
    · rcases hpost.1 _ rfl with ⟨z94, t_he95, hv, c96, c96_0, c96_1, c96_2, c96_3, hI1⟩
      cases hv
      have hI : sI (dC, dI) vcl cI cJ (gsC a t_he95 dp co li op wd tl lc fo sf lf nf) A s.heap H1 locs1 := ⟨by rw [← ht]; exact hI1, hS⟩
      obtain ⟨⟨o97, o98⟩, -, -, -, -, -, -, -, -, -, -, -⟩ := id c96
      clear hpost hI1 hS ht hWt
      revert hI; generalize H1 = H; generalize locs1 = locs; intro hI
      refine sn_iconst hx hb d_En_doMany_201 (by decide) (fun z99 hz99 => ?_)
      refine tz_call (A1 := ga (adC a) H.size) (tz_runV (C := "StoryMachine$Variables") (As := [.int x1, .int z94, .int z99]) (rest := []) ⟨hx, hb, hml, hown, hts⟩ (c_Va_write l hfl dC dI cI cJ a H.size t_he95 dp co li op wd tl lc fo sf lf nf x1 z94 z99 c96) (tx_cb (n := 3) hts rfl rfl ⟨Nat.le_of_ble_eq_true rfl, Nat.le_of_ble_eq_true rfl⟩ (tx_code.of (hts _ mw_619)) (hts _ mw_8) (by decide +kernel) (hts _ mw_616)) (hts _ mw_617) (hts _ mw_618) ⟨tz_blind, sv_recv (q0 := 16) hts in_Va hK hI kC_16 rfl, fun U hU hW => ⟨rfl, by rw [hU], by rw [hU]; exact hI.1, va_K.moved hW.alike hK, hst _ _ hI.2 U hU hW⟩⟩ rfl rfl hl.1 rfl (lv_room (Nat.le_of_ble_eq_true rfl)) d_En_doMany_202 ⟨Nat.le_of_ble_eq_true rfl, Nat.le_of_ble_eq_true rfl⟩) hI.2 (fun q _ h => ga_sub hAC hA0 hI.2 q h) (ga_sub hAC hA0 hI.2) (fun v t H1 locs1 ht hWt hpost _ _ hS => ?_) (fun x t H1 locs1 ht hWt hpost _ _ hS => ?_)
      · rcases hpost.1 _ rfl with ⟨t_he100, hv, c101, c101_0, c101_1, hI1⟩
        cases hv
        have hI : sI (dC, dI) vcl cI cJ (gsC a t_he100 dp co li op wd tl lc fo sf lf nf) A s.heap H1 locs1 := ⟨by rw [← ht]; exact hI1, hS⟩
        obtain ⟨⟨o102, o103⟩, -, -, -, -, -, -, -, -, -, -, -⟩ := id c101
        clear hpost hI1 hS ht hWt
        revert hI; generalize H1 = H; generalize locs1 = locs; intro hI
        refine lv_goto (tgt := 208) hx hb d_En_doMany_205 (by decide) ?_
        subst hZ
        exact tz_ret (W.vret hx hb hr (fun t ht hW => ⟨⟨fun v9 hv9 => by cases hv9; exact (⟨t_he100, dp, wd, lc, sf, lf, nf, rfl, c101, by rw [ht]; exact hI.1⟩), fun x9 hx9 => (by cases hx9)⟩, hI.2.F ht⟩) hI.2.2.2 d_En_doMany_208)
      · rcases hpost.2 _ rfl with ⟨hex, c104, hI1⟩ | ⟨hex, c105, c105_0, c105_1, hI1⟩
        · have hI : sI (dC, dI) vcl cI cJ (gsC a t_he95 dp co li op wd tl lc fo sf lf nf) A s.heap H1 locs1 := ⟨by rw [← ht]; exact hI1, hS⟩
          refine tz_widen (k := 1) (n := 6) (Nat.le_of_ble_eq_true rfl) (Nat.le_of_ble_eq_true rfl) ?_
          subst hZ
          exact tz_leave (tx_noH B (hts _ mw_868) _) (fun t9 ht9 hW9 => ⟨⟨fun v9 hv9 => (by cases hv9), fun x9 hx9 => by cases hx9; exact (Or.inl ⟨t_he95, wd, lc, sf, lf, ta_exm hex ht ht9 hWt hW9, c104, by omega, by rw [ht9]; exact hI.1⟩)⟩, hI.2.F ht9⟩) hI.2.2.2 hlocks
        · have hI : sI (dC, dI) vcl cI cJ (gsC a t_he95 dp co li op wd tl lc fo sf lf nf) A s.heap H1 locs1 := ⟨by rw [← ht]; exact hI1, hS⟩
          refine tz_widen (k := 1) (n := 6) (Nat.le_of_ble_eq_true rfl) (Nat.le_of_ble_eq_true rfl) ?_
          subst hZ
          exact tz_leave (tx_noH B (hts _ mw_868) _) (fun t9 ht9 hW9 => ⟨⟨fun v9 hv9 => (by cases hv9), fun x9 hx9 => by cases hx9; exact (Or.inr (⟨t_he95, ta_exm hex ht ht9 hWt hW9, c105, by omega, by rw [ht9]; exact hI.1⟩))⟩, hI.2.F ht9⟩) hI.2.2.2 hlocks
    · rcases hpost.2 _ rfl with ⟨hex, c106, hI1⟩
      have hI : sI (dC, dI) vcl cI cJ (gsC a he dp co li op wd tl lc fo sf lf nf) A s.heap H1 locs1 := ⟨by rw [← ht]; exact hI1, hS⟩
      refine tz_widen (k := 1) (n := 6) (Nat.le_of_ble_eq_true rfl) (Nat.le_of_ble_eq_true rfl) ?_
      subst hZ
      exact tz_leave (tx_noH B (hts _ mw_868) _) (fun t9 ht9 hW9 => ⟨⟨fun v9 hv9 => (by cases hv9), fun x9 hx9 => by cases hx9; exact (Or.inr (⟨he, ta_exm hex ht ht9 hWt hW9, c106, by omega, by rw [ht9]; exact hI.1⟩))⟩, hI.2.F ht9⟩) hI.2.2.2 hlocks
  exact lv_tableOut (tgt := 208) hx hb d_En_doMany_7 (by omega) (by decide) w21
abbrev q_En_returnWith (dC : Nat → ClassId) (dI : Nat → Nat → Nat) (cI cJ : ClassId) (a : Nat → Nat) (he dp co li op wd tl lc fo : Int) (sf lf nf : Nat → Int32) (x1 : Int32) : Outcome → State → Prop := fun o t => (∀ v, o = .returned v → ((∃ (he_ dp_ : Int), v = none ∧ okC he_ dp_ co li op wd tl lc fo sf lf nf ∧ (1 ≤ dp) ∧ (dp_ ≤ 9) ∧ sh_I (dC, dI) vcl cI cJ (gsC a he_ dp_ co li op wd tl lc fo sf lf nf) t.heap))) ∧ (∀ x, o = .threw x → ((∃ (he_ dp_ : Int), ta_Ex "java/lang/IllegalArgumentException" x t ∧ okC he_ dp_ co li op wd tl lc fo sf lf nf ∧ (dp_ ≤ 9) ∧ sh_I (dC, dI) vcl cI cJ (gsC a he_ dp_ co li op wd tl lc fo sf lf nf) t.heap) ∨ (∃ (he_ dp_ : Int), ta_Ex "java/lang/IllegalStateException" x t ∧ okC he_ dp_ co li op wd tl lc fo sf lf nf ∧ (1 ≤ dp) ∧ (dp_ ≤ 9) ∧ sh_I (dC, dI) vcl cI cJ (gsC a he_ dp_ co li op wd tl lc fo sf lf nf) t.heap)))
def rm_En_returnWith : Room := { frames := 9, cells := 1, slots := 6, locals := 175 }
set_option maxHeartbeats 4000000 in
set_option maxRecDepth 100000 in
theorem c_En_returnWith (l : Launch) (hfl : l.flags = pinnedFlags ++ [noTraceFlag]) (dC : Nat → ClassId) (dI : Nat → Nat → Nat) (cI cJ : ClassId) (a : Nat → Nat) (sz : Nat) (he dp co li op wd tl lc fo : Int) (sf lf nf : Nat → Int32) (x1 : Int32) (hok : okC he dp co li op wd tl lc fo sf lf nf) : tz_Met l ⟨"StoryMachine$Engine", "returnWith", "(I)V"⟩ tw_tbl rm_En_returnWith (tzP (dC, dI) vcl cI cJ (gsC a he dp co li op wd tl lc fo sf lf nf) a (adC a) [.ref (a 5), .int x1] sz) (tq_Q (q_En_returnWith dC dI cI cJ a he dp co li op wd tl lc fo sf lf nf x1) (ga (adC a) sz)) 0 0 1 6 (ga (adC a) sz) := by
  refine tz_ofW (cc := prog_4_method_16_code) (maxL := 3) (ret := none) (by decide) (tx_isM mw_603) ?_
  intro p e s m args below meth c s₁ B hml hv
  obtain ⟨rfl, hsz, hI0, hK, hst0⟩ := hv
  have hx := B.exec
  have hb := B.bytes
  have hr := B.returns
  have hts := atoms_spec (ws := tw_tbl) B.pre
  have hown : s.vm.findClass "StoryMachine$Engine" = some m.cls := findClass_of_methodNamed B.named
  have hlocks := B.notSynchronized
  subst hsz
  have hst := fun (H : Heap) (locs : List Loc) (hS : va_S (ga (adC a) s.heap.size) s.heap H locs) (U : State) (hU : U.heap = H) (hW : s.WarmedH U.vm) => zS_all adC_map hI0 hst0 hS hU hW
  have hAC : ∀ q ∈ adC a, ga (adC a) s.heap.size q := fun q h => Or.inl h
  have hA0 : ∀ q, s.heap.size ≤ q → ga (adC a) s.heap.size q := fun q h => Or.inr h
  have hI : sI (dC, dI) vcl cI cJ (gsC a he dp co li op wd tl lc fo sf lf nf) (ga (adC a) s.heap.size) s.heap s.heap [] := ⟨hI0, va_S.rf⟩
  clear hI0 hst0
  have hl := lv_entry ([.ref (a 5), .int x1]) (n := 3) (Nat.le_of_ble_eq_true rfl)
  rw [lg_entry_eq]
  generalize (lg_sl ([.ref (a 5), .int x1]) ++ List.replicate (3 - (lg_sl ([.ref (a 5), .int x1])).length) Slot.unset).toArray = ls at hl ⊢
  have hl : lv_has ls 3 [(0, .ref (a 5)), (1, .int x1)] := hl
  generalize hZ : tz_MQ below (tq_Q (q_En_returnWith dC dI cI cJ a he dp co li op wd tl lc fo sf lf nf x1) (ga (adC a) s.heap.size)) ([.ref (a 5), .int x1] : List Value).toArray s 0 0 1 6 (ga (adC a) s.heap.size) = Z
  obtain ⟨A, hAe⟩ : ∃ A, A = ga (adC a) s.heap.size := ⟨_, rfl⟩
  rw [← hAe] at hst hAC hA0 hI hZ
  refine sv_start hI (fun H locs hI => ?_)
  obtain ⟨⟨o1, o2⟩, ⟨o3, o4⟩, ⟨o5, o6⟩, ⟨o7, o8⟩, ⟨o9, o10⟩, ⟨o11, o12⟩, ⟨o13, o14⟩, ⟨o15, o16⟩, ⟨o17, o18⟩, o19, -, -⟩ := id hok
  have gx1 := sn_rng x1
  refine lv_aload_n hx hb d_En_returnWith_0 rfl (lv_at hl 0 rfl) ?_
  refine sv_getr (C := "StoryMachine$Engine") (T := T_En) (N := 15) hx hb hts in_En hown hK hI 5 kC_5 rfl 2 (by decide) (hts _ mw_263) rfl d_En_returnWith_1 ?_
  refine tz_call (A1 := ga (adC a) H.size) (tz_runV (C := "StoryMachine$Routines") (As := []) (rest := []) ⟨hx, hb, hml, hown, hts⟩ (c_Ro_result l hfl dC dI cI cJ a H.size he dp co li op wd tl lc fo sf lf nf  hok) (tx_cb (n := 0) hts rfl rfl ⟨Nat.le_of_ble_eq_true rfl, Nat.le_of_ble_eq_true rfl⟩ (tx_code.of (hts _ mw_607)) (hts _ mw_4) (by decide +kernel) (hts _ mw_604)) (hts _ mw_605) (hts _ mw_606) ⟨tz_blind, sv_recv (q0 := 3) hts in_Ro hK hI kC_3 rfl, fun U hU hW => ⟨rfl, by rw [hU], by rw [hU]; exact hI.1, va_K.moved hW.alike hK, hst _ _ hI.2 U hU hW⟩⟩ rfl rfl hl.1 rfl (lv_room (Nat.le_of_ble_eq_true rfl)) d_En_returnWith_4 ⟨Nat.le_of_ble_eq_true rfl, Nat.le_of_ble_eq_true rfl⟩) hI.2 (fun q _ h => ga_sub hAC hA0 hI.2 q h) (ga_sub hAC hA0 hI.2) (fun v t H1 locs1 ht hWt hpost _ _ hS => ?_) (fun x t H1 locs1 ht hWt hpost _ _ hS => (hpost.2 x rfl).elim)
  rcases hpost.1 _ rfl with ⟨z20, hv, c21, c21_0, c21_1, hI1⟩
  cases hv
  have hI : sI (dC, dI) vcl cI cJ (gsC a he dp co li op wd tl lc fo sf lf nf) A s.heap H1 locs1 := ⟨by rw [← ht]; exact hI1, hS⟩
  clear hpost hI1 hS ht hWt
  revert hI; generalize H1 = H; generalize locs1 = locs; intro hI
  refine lv_istore_n (lv' := [(2, .int z20), (0, .ref (a 5)), (1, .int x1)]) hx hb d_En_returnWith_7 rfl hl (by decide) rfl (fun ls hl => ?_)
  refine lv_aload_n hx hb d_En_returnWith_8 rfl (lv_at hl 1 rfl) ?_
  refine lv_aload_n hx hb d_En_returnWith_9 rfl (lv_at hl 1 rfl) ?_
  refine sv_getr (C := "StoryMachine$Engine") (T := T_En) (N := 15) hx hb hts in_En hown hK hI 5 kC_5 rfl 2 (by decide) (hts _ mw_263) rfl d_En_returnWith_10 ?_
  refine tz_call (A1 := ga (adC a) H.size) (tz_runV (C := "StoryMachine$Routines") (As := []) (rest := [.ref (a 5)]) ⟨hx, hb, hml, hown, hts⟩ (c_Ro_behind l hfl dC dI cI cJ a H.size he dp co li op wd tl lc fo sf lf nf  c21) (tx_cb (n := 0) hts rfl rfl ⟨Nat.le_of_ble_eq_true rfl, Nat.le_of_ble_eq_true rfl⟩ (tx_code.of (hts _ mw_611)) (hts _ mw_4) (by decide +kernel) (hts _ mw_608)) (hts _ mw_609) (hts _ mw_610) ⟨tz_blind, sv_recv (q0 := 3) hts in_Ro hK hI kC_3 rfl, fun U hU hW => ⟨rfl, by rw [hU], by rw [hU]; exact hI.1, va_K.moved hW.alike hK, hst _ _ hI.2 U hU hW⟩⟩ rfl rfl hl.1 rfl (lv_room (Nat.le_of_ble_eq_true rfl)) d_En_returnWith_13 ⟨Nat.le_of_ble_eq_true rfl, Nat.le_of_ble_eq_true rfl⟩) hI.2 (fun q _ h => ga_sub hAC hA0 hI.2 q h) (ga_sub hAC hA0 hI.2) (fun v t H1 locs1 ht hWt hpost _ _ hS => ?_) (fun x t H1 locs1 ht hWt hpost _ _ hS => (hpost.2 x rfl).elim)
  rcases hpost.1 _ rfl with ⟨z22, hv, c23, c23_0, c23_1, hI1⟩
  cases hv
  have hI : sI (dC, dI) vcl cI cJ (gsC a he dp co li op wd tl lc fo sf lf nf) A s.heap H1 locs1 := ⟨by rw [← ht]; exact hI1, hS⟩
  clear hpost hI1 hS ht hWt
  revert hI; generalize H1 = H; generalize locs1 = locs; intro hI
  refine sv_put (C := "StoryMachine$Engine") (T := T_En) (N := 15) (ty := .int) hx hb hts in_En t_En tk_En nm_En hown hK (sh_in adC_map hAC) hI 5 kC_5 rfl 13 (by decide) (hts _ mw_277) rfl (by decide +kernel) rfl rfl (Nat.le_of_ble_eq_true rfl) (by omega) (by omega) pC_5_13 d_En_returnWith_16 (fun H locs hI => ?_)
  refine lv_aload_n hx hb d_En_returnWith_19 rfl (lv_at hl 1 rfl) ?_
  refine sv_getr (C := "StoryMachine$Engine") (T := T_En) (N := 15) hx hb hts in_En hown hK hI 5 kC_5 rfl 2 (by decide) (hts _ mw_263) rfl d_En_returnWith_20 ?_
  refine tz_call (A1 := ga (adC a) H.size) (tz_runV (C := "StoryMachine$Routines") (As := []) (rest := []) ⟨hx, hb, hml, hown, hts⟩ (c_Ro_close l hfl dC dI cI cJ a H.size he dp co li op wd tl lc fo sf lf nf  c23) (tx_cb (n := 0) hts rfl rfl ⟨Nat.le_of_ble_eq_true rfl, Nat.le_of_ble_eq_true rfl⟩ (tx_code.of (hts _ mw_615)) (hts _ mw_4) (by decide +kernel) (hts _ mw_612)) (hts _ mw_613) (hts _ mw_614) ⟨tz_blind, sv_recv (q0 := 3) hts in_Ro hK hI kC_3 rfl, fun U hU hW => ⟨rfl, by rw [hU], by rw [hU]; exact hI.1, va_K.moved hW.alike hK, hst _ _ hI.2 U hU hW⟩⟩ rfl rfl hl.1 rfl (lv_room (Nat.le_of_ble_eq_true rfl)) d_En_returnWith_23 ⟨Nat.le_of_ble_eq_true rfl, Nat.le_of_ble_eq_true rfl⟩) hI.2 (fun q _ h => ga_sub hAC hA0 hI.2 q h) (ga_sub hAC hA0 hI.2) (fun v t H1 locs1 ht hWt hpost _ _ hS => ?_) (fun x t H1 locs1 ht hWt hpost _ _ hS => ?_)
  · rcases hpost.1 _ rfl with ⟨t_he24, t_dp25, hv, c26, c26_0, c26_1, hI1⟩
    cases hv
    have hI : sI (dC, dI) vcl cI cJ (gsC a t_he24 t_dp25 co li op wd tl lc fo sf lf nf) A s.heap H1 locs1 := ⟨by rw [← ht]; exact hI1, hS⟩
    obtain ⟨⟨o27, o28⟩, ⟨o29, o30⟩, -, -, -, -, -, -, -, -, -, -⟩ := id c26
    clear hpost hI1 hS ht hWt
    revert hI; generalize H1 = H; generalize locs1 = locs; intro hI
    refine lv_aload_n hx hb d_En_returnWith_26 rfl (lv_at hl 1 rfl) ?_
    refine sv_getr (C := "StoryMachine$Engine") (T := T_En) (N := 15) hx hb hts in_En hown hK hI 5 kC_5 rfl 4 (by decide) (hts _ mw_265) rfl d_En_returnWith_27 ?_
    refine lv_iload_n hx hb d_En_returnWith_30 rfl (lv_at hl 0 rfl) ?_
    refine lv_iload_n hx hb d_En_returnWith_31 rfl (lv_at hl 2 rfl) ?_
    refine sn_iconst hx hb d_En_returnWith_32 (by decide) (fun z31 hz31 => ?_)
    refine tz_call (A1 := ga (adC a) H.size) (tz_runV (C := "StoryMachine$Variables") (As := [.int z20, .int x1, .int z31]) (rest := []) ⟨hx, hb, hml, hown, hts⟩ (c_Va_write l hfl dC dI cI cJ a H.size t_he24 t_dp25 co li op wd tl lc fo sf lf nf z20 x1 z31 c26) (tx_cb (n := 3) hts rfl rfl ⟨Nat.le_of_ble_eq_true rfl, Nat.le_of_ble_eq_true rfl⟩ (tx_code.of (hts _ mw_619)) (hts _ mw_8) (by decide +kernel) (hts _ mw_616)) (hts _ mw_617) (hts _ mw_618) ⟨tz_blind, sv_recv (q0 := 16) hts in_Va hK hI kC_16 rfl, fun U hU hW => ⟨rfl, by rw [hU], by rw [hU]; exact hI.1, va_K.moved hW.alike hK, hst _ _ hI.2 U hU hW⟩⟩ rfl rfl hl.1 rfl (lv_room (Nat.le_of_ble_eq_true rfl)) d_En_returnWith_33 ⟨Nat.le_of_ble_eq_true rfl, Nat.le_of_ble_eq_true rfl⟩) hI.2 (fun q _ h => ga_sub hAC hA0 hI.2 q h) (ga_sub hAC hA0 hI.2) (fun v t H1 locs1 ht hWt hpost _ _ hS => ?_) (fun x t H1 locs1 ht hWt hpost _ _ hS => ?_)
    · rcases hpost.1 _ rfl with ⟨t_he32, hv, c33, c33_0, c33_1, hI1⟩
      cases hv
      have hI : sI (dC, dI) vcl cI cJ (gsC a t_he32 t_dp25 co li op wd tl lc fo sf lf nf) A s.heap H1 locs1 := ⟨by rw [← ht]; exact hI1, hS⟩
      obtain ⟨⟨o34, o35⟩, -, -, -, -, -, -, -, -, -, -, -⟩ := id c33
      clear hpost hI1 hS ht hWt
      revert hI; generalize H1 = H; generalize locs1 = locs; intro hI
      subst hZ
      exact tz_ret (W.vret hx hb hr (fun t ht hW => ⟨⟨fun v9 hv9 => by cases hv9; exact (⟨t_he32, t_dp25, rfl, c33, by omega, by omega, by rw [ht]; exact hI.1⟩), fun x9 hx9 => (by cases hx9)⟩, hI.2.F ht⟩) hI.2.2.2 d_En_returnWith_36)
    · rcases hpost.2 _ rfl with ⟨hex, c36, hI1⟩ | ⟨hex, c37, c37_0, c37_1, hI1⟩
      · have hI : sI (dC, dI) vcl cI cJ (gsC a t_he24 t_dp25 co li op wd tl lc fo sf lf nf) A s.heap H1 locs1 := ⟨by rw [← ht]; exact hI1, hS⟩
        refine tz_widen (k := 1) (n := 6) (Nat.le_of_ble_eq_true rfl) (Nat.le_of_ble_eq_true rfl) ?_
        subst hZ
        exact tz_leave (tx_noH B (hts _ mw_603) _) (fun t9 ht9 hW9 => ⟨⟨fun v9 hv9 => (by cases hv9), fun x9 hx9 => by cases hx9; exact (Or.inl ⟨t_he24, t_dp25, ta_exm hex ht ht9 hWt hW9, c36, by omega, by rw [ht9]; exact hI.1⟩)⟩, hI.2.F ht9⟩) hI.2.2.2 hlocks
      · have hI : sI (dC, dI) vcl cI cJ (gsC a t_he24 t_dp25 co li op wd tl lc fo sf lf nf) A s.heap H1 locs1 := ⟨by rw [← ht]; exact hI1, hS⟩
        refine tz_widen (k := 1) (n := 6) (Nat.le_of_ble_eq_true rfl) (Nat.le_of_ble_eq_true rfl) ?_
        subst hZ
        exact tz_leave (tx_noH B (hts _ mw_603) _) (fun t9 ht9 hW9 => ⟨⟨fun v9 hv9 => (by cases hv9), fun x9 hx9 => by cases hx9; exact (Or.inr (⟨t_he24, t_dp25, ta_exm hex ht ht9 hWt hW9, c37, by omega, by omega, by rw [ht9]; exact hI.1⟩))⟩, hI.2.F ht9⟩) hI.2.2.2 hlocks
  · rcases hpost.2 _ rfl with ⟨hex, c38, c38_0, hI1⟩
    have hI : sI (dC, dI) vcl cI cJ (gsC a he dp co li op wd tl lc fo sf lf nf) A s.heap H1 locs1 := ⟨by rw [← ht]; exact hI1, hS⟩
    refine tz_widen (k := 1) (n := 6) (Nat.le_of_ble_eq_true rfl) (Nat.le_of_ble_eq_true rfl) ?_
    subst hZ
    exact tz_leave (tx_noH B (hts _ mw_603) _) (fun t9 ht9 hW9 => ⟨⟨fun v9 hv9 => (by cases hv9), fun x9 hx9 => by cases hx9; exact (Or.inl ⟨he, dp, ta_exm hex ht ht9 hWt hW9, c38, by omega, by rw [ht9]; exact hI.1⟩)⟩, hI.2.F ht9⟩) hI.2.2.2 hlocks
abbrev q_En_branch (dC : Nat → ClassId) (dI : Nat → Nat → Nat) (cI cJ : ClassId) (a : Nat → Nat) (he dp co li op wd tl lc fo : Int) (sf lf nf : Nat → Int32) (x1 : Int32) : Outcome → State → Prop := fun o t => (∀ v, o = .returned v → ((∃ (he_ dp_ : Int), v = none ∧ okC he_ dp_ co li op wd tl lc fo sf lf nf ∧ sh_I (dC, dI) vcl cI cJ (gsC a he_ dp_ co li op wd tl lc fo sf lf nf) t.heap))) ∧ (∀ x, o = .threw x → ((∃ (he_ dp_ : Int), ta_Ex "java/lang/IllegalArgumentException" x t ∧ okC he_ dp_ co li op wd tl lc fo sf lf nf ∧ (dp_ ≤ 9) ∧ sh_I (dC, dI) vcl cI cJ (gsC a he_ dp_ co li op wd tl lc fo sf lf nf) t.heap) ∨ (∃ (he_ dp_ : Int), ta_Ex "java/lang/IllegalStateException" x t ∧ okC he_ dp_ co li op wd tl lc fo sf lf nf ∧ (1 ≤ dp) ∧ (dp_ ≤ 9) ∧ sh_I (dC, dI) vcl cI cJ (gsC a he_ dp_ co li op wd tl lc fo sf lf nf) t.heap)))
def rm_En_branch : Room := { frames := 10, cells := 1, slots := 6, locals := 197 }
set_option maxHeartbeats 4000000 in
set_option maxRecDepth 100000 in
theorem c_En_branch (l : Launch) (hfl : l.flags = pinnedFlags ++ [noTraceFlag]) (dC : Nat → ClassId) (dI : Nat → Nat → Nat) (cI cJ : ClassId) (a : Nat → Nat) (sz : Nat) (he dp co li op wd tl lc fo : Int) (sf lf nf : Nat → Int32) (x1 : Int32) (hok : okC he dp co li op wd tl lc fo sf lf nf) (hp0 : 0 ≤ x1.toInt) (hp1 : x1.toInt ≤ 1) : tz_Met l ⟨"StoryMachine$Engine", "branch", "(Z)V"⟩ tw_tbl rm_En_branch (tzP (dC, dI) vcl cI cJ (gsC a he dp co li op wd tl lc fo sf lf nf) a (adC a) [.ref (a 5), .int x1] sz) (tq_Q (q_En_branch dC dI cI cJ a he dp co li op wd tl lc fo sf lf nf x1) (ga (adC a) sz)) 0 0 1 6 (ga (adC a) sz) := by
  refine tz_ofW (cc := prog_4_method_14_code) (maxL := 3) (ret := none) (by decide) (tx_isM mw_706) ?_
  intro p e s m args below meth c s₁ B hml hv
  obtain ⟨rfl, hsz, hI0, hK, hst0⟩ := hv
  have hx := B.exec
  have hb := B.bytes
  have hr := B.returns
  have hts := atoms_spec (ws := tw_tbl) B.pre
  have hown : s.vm.findClass "StoryMachine$Engine" = some m.cls := findClass_of_methodNamed B.named
  have hlocks := B.notSynchronized
  subst hsz
  have hst := fun (H : Heap) (locs : List Loc) (hS : va_S (ga (adC a) s.heap.size) s.heap H locs) (U : State) (hU : U.heap = H) (hW : s.WarmedH U.vm) => zS_all adC_map hI0 hst0 hS hU hW
  have hAC : ∀ q ∈ adC a, ga (adC a) s.heap.size q := fun q h => Or.inl h
  have hA0 : ∀ q, s.heap.size ≤ q → ga (adC a) s.heap.size q := fun q h => Or.inr h
  have hI : sI (dC, dI) vcl cI cJ (gsC a he dp co li op wd tl lc fo sf lf nf) (ga (adC a) s.heap.size) s.heap s.heap [] := ⟨hI0, va_S.rf⟩
  clear hI0 hst0
  have hl := lv_entry ([.ref (a 5), .int x1]) (n := 3) (Nat.le_of_ble_eq_true rfl)
  rw [lg_entry_eq]
  generalize (lg_sl ([.ref (a 5), .int x1]) ++ List.replicate (3 - (lg_sl ([.ref (a 5), .int x1])).length) Slot.unset).toArray = ls at hl ⊢
  have hl : lv_has ls 3 [(0, .ref (a 5)), (1, .int x1)] := hl
  generalize hZ : tz_MQ below (tq_Q (q_En_branch dC dI cI cJ a he dp co li op wd tl lc fo sf lf nf x1) (ga (adC a) s.heap.size)) ([.ref (a 5), .int x1] : List Value).toArray s 0 0 1 6 (ga (adC a) s.heap.size) = Z
  obtain ⟨A, hAe⟩ : ∃ A, A = ga (adC a) s.heap.size := ⟨_, rfl⟩
  rw [← hAe] at hst hAC hA0 hI hZ
  refine sv_start hI (fun H locs hI => ?_)
  obtain ⟨⟨o1, o2⟩, ⟨o3, o4⟩, ⟨o5, o6⟩, ⟨o7, o8⟩, ⟨o9, o10⟩, ⟨o11, o12⟩, ⟨o13, o14⟩, ⟨o15, o16⟩, ⟨o17, o18⟩, o19, -, -⟩ := id hok
  have gx1 := sn_rng x1
  have j29 : ∀ (H : Heap) (locs : List Loc) (ls : Array Slot) (v29_2 : Int32), sI (dC, dI) vcl cI cJ (gsC a he dp co li op wd tl lc fo sf lf nf) A s.heap H locs → okC he dp co li op wd tl lc fo sf lf nf → 0 ≤ v29_2.toInt → v29_2.toInt ≤ 1 → lv_has ls 3 [(0, .ref (a 5)), (1, .int x1), (2, .int v29_2)] → W p l e (headSpec tw_tbl rm_En_branch).room s m ([.ref (a 5), .int x1] : List Value).toArray below meth c H locs 0 0 Z (F0 m 29 ls []) := by
    intro H locs ls v29_2 hI hok g29_0 g29_1 hl
    obtain ⟨⟨o20, o21⟩, ⟨o22, o23⟩, ⟨o24, o25⟩, ⟨o26, o27⟩, ⟨o28, o29⟩, ⟨o30, o31⟩, ⟨o32, o33⟩, ⟨o34, o35⟩, ⟨o36, o37⟩, o38, -, -⟩ := id hok
    refine lv_aload_n hx hb d_En_branch_29 rfl (lv_at hl 0 rfl) ?_
    refine lv_iload_n hx hb d_En_branch_30 rfl (lv_at hl 2 rfl) ?_
    refine tz_call (A1 := ga (adC a) H.size) (tz_runV (C := "StoryMachine$Engine") (As := [.int v29_2]) (rest := []) ⟨hx, hb, hml, hown, hts⟩ (c_En_returnWith l hfl dC dI cI cJ a H.size he dp co li op wd tl lc fo sf lf nf v29_2 hok) (tx_cb (n := 1) hts rfl rfl ⟨Nat.le_of_ble_eq_true rfl, Nat.le_of_ble_eq_true rfl⟩ (tx_code.of (hts _ mw_603)) (hts _ mw_6) (by decide +kernel) (hts _ mw_600)) (hts _ mw_602) (hts _ ms_En_returnWith) ⟨tz_blind, sv_recv (q0 := 5) hts in_En hK hI kC_5 rfl, fun U hU hW => ⟨rfl, by rw [hU], by rw [hU]; exact hI.1, va_K.moved hW.alike hK, hst _ _ hI.2 U hU hW⟩⟩ rfl rfl hl.1 rfl (lv_room (Nat.le_of_ble_eq_true rfl)) d_En_branch_31 ⟨Nat.le_of_ble_eq_true rfl, Nat.le_of_ble_eq_true rfl⟩) hI.2 (fun q _ h => ga_sub hAC hA0 hI.2 q h) (ga_sub hAC hA0 hI.2) (fun v t H1 locs1 ht hWt hpost _ _ hS => ?_) (fun x t H1 locs1 ht hWt hpost _ _ hS => ?_)
    · rcases hpost.1 _ rfl with ⟨t_he39, t_dp40, hv, c41, c41_0, c41_1, hI1⟩
      cases hv
      have hI : sI (dC, dI) vcl cI cJ (gsC a t_he39 t_dp40 co li op wd tl lc fo sf lf nf) A s.heap H1 locs1 := ⟨by rw [← ht]; exact hI1, hS⟩
      obtain ⟨⟨o42, o43⟩, ⟨o44, o45⟩, -, -, -, -, -, -, -, -, -, -⟩ := id c41
      clear hpost hI1 hS ht hWt
      revert hI; generalize H1 = H; generalize locs1 = locs; intro hI
      refine lv_goto (tgt := 49) hx hb d_En_branch_34 (by decide) ?_
      subst hZ
      exact tz_ret (W.vret hx hb hr (fun t ht hW => ⟨⟨fun v9 hv9 => by cases hv9; exact (⟨t_he39, t_dp40, rfl, c41, by rw [ht]; exact hI.1⟩), fun x9 hx9 => (by cases hx9)⟩, hI.2.F ht⟩) hI.2.2.2 d_En_branch_49)
    · rcases hpost.2 _ rfl with ⟨t_he46, t_dp47, hex, c48, c48_0, hI1⟩ | ⟨t_he49, t_dp50, hex, c51, c51_0, c51_1, hI1⟩
      · have hI : sI (dC, dI) vcl cI cJ (gsC a t_he46 t_dp47 co li op wd tl lc fo sf lf nf) A s.heap H1 locs1 := ⟨by rw [← ht]; exact hI1, hS⟩
        obtain ⟨⟨o52, o53⟩, ⟨o54, o55⟩, -, -, -, -, -, -, -, -, -, -⟩ := id c48
        refine tz_widen (k := 1) (n := 6) (Nat.le_of_ble_eq_true rfl) (Nat.le_of_ble_eq_true rfl) ?_
        subst hZ
        exact tz_leave (tx_noH B (hts _ mw_706) _) (fun t9 ht9 hW9 => ⟨⟨fun v9 hv9 => (by cases hv9), fun x9 hx9 => by cases hx9; exact (Or.inl ⟨t_he46, t_dp47, ta_exm hex ht ht9 hWt hW9, c48, by omega, by rw [ht9]; exact hI.1⟩)⟩, hI.2.F ht9⟩) hI.2.2.2 hlocks
      · have hI : sI (dC, dI) vcl cI cJ (gsC a t_he49 t_dp50 co li op wd tl lc fo sf lf nf) A s.heap H1 locs1 := ⟨by rw [← ht]; exact hI1, hS⟩
        obtain ⟨⟨o56, o57⟩, ⟨o58, o59⟩, -, -, -, -, -, -, -, -, -, -⟩ := id c51
        refine tz_widen (k := 1) (n := 6) (Nat.le_of_ble_eq_true rfl) (Nat.le_of_ble_eq_true rfl) ?_
        subst hZ
        exact tz_leave (tx_noH B (hts _ mw_706) _) (fun t9 ht9 hW9 => ⟨⟨fun v9 hv9 => (by cases hv9), fun x9 hx9 => by cases hx9; exact (Or.inr (⟨t_he49, t_dp50, ta_exm hex ht ht9 hWt hW9, c51, by omega, by omega, by rw [ht9]; exact hI.1⟩))⟩, hI.2.F ht9⟩) hI.2.2.2 hlocks
  refine lv_iload_n hx hb d_En_branch_0 rfl (lv_at hl 1 rfl) ?_
  refine lv_aload_n hx hb d_En_branch_1 rfl (lv_at hl 0 rfl) ?_
  refine sv_getr (C := "StoryMachine$Engine") (T := T_En) (N := 15) hx hb hts in_En hown hK hI 5 kC_5 rfl 7 (by decide) (hts _ mw_268) rfl d_En_branch_2 ?_
  refine sv_get (C := "StoryMachine$Instruction") (T := T_In) (N := 11) hx hb hts in_In hown hK hI 19 kC_19 rfl 8 (by decide) (hts _ mw_234) rfl d_En_branch_5 (fun z60 hz60a hz60b => ?_)
  refine sn_icmp_eq (tgt := 12) hx hb d_En_branch_8 (by decide) (fun b61 => ?_) (fun b61 => ?_)
  · refine lv_aload_n hx hb d_En_branch_12 rfl (lv_at hl 0 rfl) ?_
    refine sv_getr (C := "StoryMachine$Engine") (T := T_En) (N := 15) hx hb hts in_En hown hK hI 5 kC_5 rfl 7 (by decide) (hts _ mw_268) rfl d_En_branch_13 ?_
    refine sv_get (C := "StoryMachine$Instruction") (T := T_In) (N := 11) hx hb hts in_In hown hK hI 19 kC_19 rfl 9 (by decide) (hts _ mw_236) rfl d_En_branch_16 (fun z62 hz62a hz62b => ?_)
    refine lv_istore_n (lv' := [(2, .int z62), (0, .ref (a 5)), (1, .int x1)]) hx hb d_En_branch_19 rfl hl (by decide) rfl (fun ls hl => ?_)
    refine lv_iload_n hx hb d_En_branch_20 rfl (lv_at hl 0 rfl) ?_
    refine sn_if_eq (tgt := 29) hx hb d_En_branch_21 (by decide) (fun b63 => ?_) (fun b63 => ?_)
    · exact j29 _ _ _ z62 hI hok (by omega) (by omega) (lv_sub hl [1, 2, 0] rfl)
    · refine lv_iload_n hx hb d_En_branch_24 rfl (lv_at hl 0 rfl) ?_
      refine sn_iconst hx hb d_En_branch_25 (by decide) (fun z64 hz64 => ?_)
      refine sn_icmp_ne (tgt := 37) hx hb d_En_branch_26 (by decide) (fun b65 => ?_) (fun b65 => ?_)
      · refine lv_aload_n hx hb d_En_branch_37 rfl (lv_at hl 1 rfl) ?_
        refine lv_dup hx hb d_En_branch_38 rfl ?_
        refine sv_get (C := "StoryMachine$Engine") (T := T_En) (N := 15) hx hb hts in_En hown hK hI 5 kC_5 rfl 13 (by decide) (hts _ mw_277) rfl d_En_branch_39 (fun z66 hz66a hz66b => ?_)
        refine lv_iload_n hx hb d_En_branch_42 rfl (lv_at hl 0 rfl) ?_
        refine sn_iconst hx hb d_En_branch_43 (by decide) (fun z67 hz67 => ?_)
        refine sn_isubT hx hb d_En_branch_44 (fun z68 hz68a hz68b => ?_)
        refine sn_iaddT hx hb d_En_branch_45 (fun z69 hz69a hz69b => ?_)
        refine sv_put (C := "StoryMachine$Engine") (T := T_En) (N := 15) (ty := .int) hx hb hts in_En t_En tk_En nm_En hown hK (sh_in adC_map hAC) hI 5 kC_5 rfl 13 (by decide) (hts _ mw_277) rfl (by decide +kernel) rfl rfl (Nat.le_of_ble_eq_true rfl) (by omega) (by omega) pC_5_13 d_En_branch_46 (fun H locs hI => ?_)
        subst hZ
        exact tz_ret (W.vret hx hb hr (fun t ht hW => ⟨⟨fun v9 hv9 => by cases hv9; exact (⟨he, dp, rfl, hok, by rw [ht]; exact hI.1⟩), fun x9 hx9 => (by cases hx9)⟩, hI.2.F ht⟩) hI.2.2.2 d_En_branch_49)
      · exact j29 _ _ _ z62 hI hok (by omega) (by omega) (lv_sub hl [1, 2, 0] rfl)
  · subst hZ
    exact tz_ret (W.vret hx hb hr (fun t ht hW => ⟨⟨fun v9 hv9 => by cases hv9; exact (⟨he, dp, rfl, hok, by rw [ht]; exact hI.1⟩), fun x9 hx9 => (by cases hx9)⟩, hI.2.F ht⟩) hI.2.2.2 d_En_branch_11)
