abbrev q_En_doSecond (dC : Nat → ClassId) (dI : Nat → Nat → Nat) (cI cJ : ClassId) (a : Nat → Nat) (he dp co li op wd tl lc fo : Int) (sf lf nf : Nat → Int32) (x1 : Int32) (x2 : Int32) : Outcome → State → Prop := fun o t => (∀ v, o = .returned v → ((∃ (he_ dp_ : Int), v = none ∧ okC he_ dp_ co li op wd tl lc fo sf lf nf ∧ sh_I (dC, dI) vcl cI cJ (gsC a he_ dp_ co li op wd tl lc fo sf lf nf) t.heap))) ∧ (∀ x, o = .threw x → ((ta_Ex "java/lang/ArithmeticException" x t ∧ okC he dp co li op wd tl lc fo sf lf nf ∧ (x2.toInt ≤ 0) ∧ sh_I (dC, dI) vcl cI cJ (gsC a he dp co li op wd tl lc fo sf lf nf) t.heap) ∨ (∃ (he_ dp_ : Int), ta_Ex "java/lang/IllegalArgumentException" x t ∧ okC he_ dp_ co li op wd tl lc fo sf lf nf ∧ sh_I (dC, dI) vcl cI cJ (gsC a he_ dp_ co li op wd tl lc fo sf lf nf) t.heap) ∨ (∃ (he_ dp_ : Int), ta_Ex "java/lang/IllegalStateException" x t ∧ okC he_ dp_ co li op wd tl lc fo sf lf nf ∧ sh_I (dC, dI) vcl cI cJ (gsC a he_ dp_ co li op wd tl lc fo sf lf nf) t.heap)))
def rm_En_doSecond : Room := { frames := 12, cells := 1, slots := 6, locals := 238 }
set_option maxHeartbeats 4000000 in
set_option maxRecDepth 100000 in
theorem c_En_doSecond (l : Launch) (hfl : l.flags = pinnedFlags ++ [noTraceFlag]) (dC : Nat → ClassId) (dI : Nat → Nat → Nat) (cI cJ : ClassId) (a : Nat → Nat) (sz : Nat) (he dp co li op wd tl lc fo : Int) (sf lf nf : Nat → Int32) (x1 : Int32) (x2 : Int32) (hok : okC he dp co li op wd tl lc fo sf lf nf) (hp0 : 0 ≤ x1.toInt) (hp1 : x1.toInt ≤ 65535) (hp2 : 0 ≤ x2.toInt) (hp3 : x2.toInt ≤ 65535) : tz_Met l ⟨"StoryMachine$Engine", "doSecond", "(II)V"⟩ tw_tbl rm_En_doSecond (tzP (dC, dI) vcl cI cJ (gsC a he dp co li op wd tl lc fo sf lf nf) a (adC a) [.ref (a 5), .int x1, .int x2] sz) (tq_Q (q_En_doSecond dC dI cI cJ a he dp co li op wd tl lc fo sf lf nf x1 x2) (ga (adC a) sz)) 0 0 1 6 (ga (adC a) sz) := by
  refine tz_ofW (cc := prog_4_method_7_code) (maxL := 3) (ret := none) (by decide) (tx_isM mw_794) ?_
  intro p e s m args below meth c s₁ B hml hv
  obtain ⟨rfl, hsz, hI0, hK, hst0⟩ := hv
  have hx := B.exec
  have hb := B.bytes
  have hr := B.returns
  have hts := atoms_spec (ws := tw_tbl) B.pre
  have hown : s.vm.findClass "StoryMachine$Engine" = some m.cls := findClass_of_methodNamed B.named
  have hlocks := B.notSynchronized
  subst hsz
  have hst := fun (H : Heap) (locs : List Loc) (hS : va_S (ga (adC a) s.heap.size) s.heap H locs) (U : State) (hU : U.heap = H) (hW : s.WarmedH U.vm) => zS_all adC_map hI0 hst0 hS hU hW
  have hAC : ∀ q ∈ adC a, ga (adC a) s.heap.size q := fun q h => Or.inl h
  have hA0 : ∀ q, s.heap.size ≤ q → ga (adC a) s.heap.size q := fun q h => Or.inr h
  have hI : sI (dC, dI) vcl cI cJ (gsC a he dp co li op wd tl lc fo sf lf nf) (ga (adC a) s.heap.size) s.heap s.heap [] := ⟨hI0, va_S.rf⟩
  clear hI0 hst0
  have hl := lv_entry ([.ref (a 5), .int x1, .int x2]) (n := 3) (Nat.le_of_ble_eq_true rfl)
  rw [lg_entry_eq]
  generalize (lg_sl ([.ref (a 5), .int x1, .int x2]) ++ List.replicate (3 - (lg_sl ([.ref (a 5), .int x1, .int x2])).length) Slot.unset).toArray = ls at hl ⊢
  have hl : lv_has ls 3 [(0, .ref (a 5)), (1, .int x1), (2, .int x2)] := hl
  generalize hZ : tz_MQ below (tq_Q (q_En_doSecond dC dI cI cJ a he dp co li op wd tl lc fo sf lf nf x1 x2) (ga (adC a) s.heap.size)) ([.ref (a 5), .int x1, .int x2] : List Value).toArray s 0 0 1 6 (ga (adC a) s.heap.size) = Z
  obtain ⟨A, hAe⟩ : ∃ A, A = ga (adC a) s.heap.size := ⟨_, rfl⟩
  rw [← hAe] at hst hAC hA0 hI hZ
  refine sv_start hI (fun H locs hI => ?_)
  obtain ⟨⟨o1, o2⟩, ⟨o3, o4⟩, ⟨o5, o6⟩, ⟨o7, o8⟩, ⟨o9, o10⟩, ⟨o11, o12⟩, ⟨o13, o14⟩, ⟨o15, o16⟩, ⟨o17, o18⟩, o19, -, -⟩ := id hok
  have gx1 := sn_rng x1
  have gx2 := sn_rng x2
  refine lv_aload_n hx hb d_En_doSecond_0 rfl (lv_at hl 0 rfl) ?_
  refine sv_getr (C := "StoryMachine$Engine") (T := T_En) (N := 15) hx hb hts in_En hown hK hI 5 kC_5 rfl 7 (by decide) (hts _ mw_268) rfl d_En_doSecond_1 ?_
  refine tz_call (A1 := ga (adC a) H.size) (tz_runV (C := "StoryMachine$Instruction") (As := []) (rest := []) ⟨hx, hb, hml, hown, hts⟩ (c_In_branches l hfl dC dI cI cJ a H.size he dp co li op wd tl lc fo sf lf nf  hok) (tx_cb (n := 0) hts rfl rfl ⟨Nat.le_of_ble_eq_true rfl, Nat.le_of_ble_eq_true rfl⟩ (tx_code.of (hts _ mw_591)) (hts _ mw_11) (by decide +kernel) (hts _ mw_765)) (hts _ mw_589) (hts _ mw_590) ⟨tz_blind, sv_recv (q0 := 19) hts in_In hK hI kC_19 rfl, fun U hU hW => ⟨rfl, by rw [hU], by rw [hU]; exact hI.1, va_K.moved hW.alike hK, hst _ _ hI.2 U hU hW⟩⟩ rfl rfl hl.1 rfl (lv_room (Nat.le_of_ble_eq_true rfl)) d_En_doSecond_4 ⟨Nat.le_of_ble_eq_true rfl, Nat.le_of_ble_eq_true rfl⟩) hI.2 (fun q _ h => ga_sub hAC hA0 hI.2 q h) (ga_sub hAC hA0 hI.2) (fun v t H1 locs1 ht hWt hpost _ _ hS => ?_) (fun x t H1 locs1 ht hWt hpost _ _ hS => (hpost.2 x rfl).elim)
  rcases hpost.1 _ rfl with ⟨z20, hv, c21, c21_0, c21_1, hI1⟩ | ⟨z22, hv, c23, c23_0, c23_1, hI1⟩
  · cases hv
    have hI : sI (dC, dI) vcl cI cJ (gsC a he dp co li op wd tl lc fo sf lf nf) A s.heap H1 locs1 := ⟨by rw [← ht]; exact hI1, hS⟩
    clear hpost hI1 hS ht hWt
    revert hI; generalize H1 = H; generalize locs1 = locs; intro hI
    refine sn_if_eq (tgt := 21) hx hb d_En_doSecond_7 (by decide) (fun b24 => ?_) (fun b24 => ?_)
    · refine lv_aload_n hx hb d_En_doSecond_21 rfl (lv_at hl 0 rfl) ?_
      refine sv_getr (C := "StoryMachine$Engine") (T := T_En) (N := 15) hx hb hts in_En hown hK hI 5 kC_5 rfl 7 (by decide) (hts _ mw_268) rfl d_En_doSecond_22 ?_
      refine tz_call (A1 := ga (adC a) H.size) (tz_runV (C := "StoryMachine$Instruction") (As := []) (rest := []) ⟨hx, hb, hml, hown, hts⟩ (c_In_gives l hfl dC dI cI cJ a H.size he dp co li op wd tl lc fo sf lf nf  c21) (tx_cb (n := 0) hts rfl rfl ⟨Nat.le_of_ble_eq_true rfl, Nat.le_of_ble_eq_true rfl⟩ (tx_code.of (hts _ mw_587)) (hts _ mw_11) (by decide +kernel) (hts _ mw_732)) (hts _ mw_585) (hts _ mw_586) ⟨tz_blind, sv_recv (q0 := 19) hts in_In hK hI kC_19 rfl, fun U hU hW => ⟨rfl, by rw [hU], by rw [hU]; exact hI.1, va_K.moved hW.alike hK, hst _ _ hI.2 U hU hW⟩⟩ rfl rfl hl.1 rfl (lv_room (Nat.le_of_ble_eq_true rfl)) d_En_doSecond_25 ⟨Nat.le_of_ble_eq_true rfl, Nat.le_of_ble_eq_true rfl⟩) hI.2 (fun q _ h => ga_sub hAC hA0 hI.2 q h) (ga_sub hAC hA0 hI.2) (fun v t H1 locs1 ht hWt hpost _ _ hS => ?_) (fun x t H1 locs1 ht hWt hpost _ _ hS => (hpost.2 x rfl).elim)
      rcases hpost.1 _ rfl with ⟨z25, hv, c26, c26_0, c26_1, hI1⟩ | ⟨z27, hv, c28, c28_0, c28_1, hI1⟩
      · cases hv
        have hI : sI (dC, dI) vcl cI cJ (gsC a he dp co li op wd tl lc fo sf lf nf) A s.heap H1 locs1 := ⟨by rw [← ht]; exact hI1, hS⟩
        clear hpost hI1 hS ht hWt
        revert hI; generalize H1 = H; generalize locs1 = locs; intro hI
        refine sn_if_eq (tgt := 53) hx hb d_En_doSecond_28 (by decide) (fun b29 => ?_) (fun b29 => ?_)
        · refine lv_aload_n hx hb d_En_doSecond_53 rfl (lv_at hl 0 rfl) ?_
          refine sv_getr (C := "StoryMachine$Engine") (T := T_En) (N := 15) hx hb hts in_En hown hK hI 5 kC_5 rfl 7 (by decide) (hts _ mw_268) rfl d_En_doSecond_54 ?_
          refine sv_gete (C := "StoryMachine$Instruction") (T := T_In) (N := 11) hx hb hts in_In hown hK hI 19 kC_19 rfl 5 (by decide) (hts _ mw_227) rfl d_En_doSecond_57 (fun z30 hz30 => ?_)
          have w31 : W p l e (headSpec tw_tbl rm_En_doSecond).room s m ([.ref (a 5), .int x1, .int x2] : List Value).toArray below meth c H locs 0 0 Z (F0 m 143 ls []) := by
            subst hZ
            exact tz_ret (W.vret hx hb hr (fun t ht hW => ⟨⟨fun v9 hv9 => by cases hv9; exact (⟨he, dp, rfl, c26, by rw [ht]; exact hI.1⟩), fun x9 hx9 => (by cases hx9)⟩, hI.2.F ht⟩) hI.2.2.2 d_En_doSecond_143)
          by_cases b32 : z30.toInt = 11
          · refine sn_tin (v := 11) (off := 32) (tgt := 92) hx hb d_En_doSecond_60 b32 (by decide) (by decide) (by decide) (by decide) ?_
            refine lv_aload_n hx hb d_En_doSecond_92 rfl (lv_at hl 0 rfl) ?_
            refine sv_getr (C := "StoryMachine$Engine") (T := T_En) (N := 15) hx hb hts in_En hown hK hI 5 kC_5 rfl 5 (by decide) (hts _ mw_266) rfl d_En_doSecond_93 ?_
            refine lv_iload_n hx hb d_En_doSecond_96 rfl (lv_at hl 1 rfl) ?_
            refine lv_iload_n hx hb d_En_doSecond_97 rfl (lv_at hl 2 rfl) ?_
            refine sn_iconst hx hb d_En_doSecond_98 (by decide) (fun z33 hz33 => ?_)
            refine tz_call (A1 := ga (adC a) H.size) (tz_runV (C := "StoryMachine$Tree") (As := [.int x1, .int x2, .int z33]) (rest := []) ⟨hx, hb, hml, hown, hts⟩ (c_Tr_setAttribute l hfl dC dI cI cJ a H.size he dp co li op wd tl lc fo sf lf nf x1 x2 z33 c26) (tx_cb (n := 3) hts rfl rfl ⟨Nat.le_of_ble_eq_true rfl, Nat.le_of_ble_eq_true rfl⟩ (tx_code.of (hts _ mw_859)) (hts _ mw_9) (by decide +kernel) (hts _ mw_856)) (hts _ mw_857) (hts _ mw_858) ⟨tz_blind, sv_recv (q0 := 17) hts in_Tr hK hI kC_17 rfl, fun U hU hW => ⟨rfl, by rw [hU], by rw [hU]; exact hI.1, va_K.moved hW.alike hK, hst _ _ hI.2 U hU hW⟩⟩ rfl rfl hl.1 rfl (lv_room (Nat.le_of_ble_eq_true rfl)) d_En_doSecond_99 ⟨Nat.le_of_ble_eq_true rfl, Nat.le_of_ble_eq_true rfl⟩) hI.2 (fun q _ h => ga_sub hAC hA0 hI.2 q h) (ga_sub hAC hA0 hI.2) (fun v t H1 locs1 ht hWt hpost _ _ hS => ?_) (fun x t H1 locs1 ht hWt hpost _ _ hS => ?_)
            · rcases hpost.1 _ rfl with ⟨hv, c34, c34_0, c34_1, c34_2, hI1⟩
              cases hv
              have hI : sI (dC, dI) vcl cI cJ (gsC a he dp co li op wd tl lc fo sf lf nf) A s.heap H1 locs1 := ⟨by rw [← ht]; exact hI1, hS⟩
              clear hpost hI1 hS ht hWt
              revert hI; generalize H1 = H; generalize locs1 = locs; intro hI
              refine lv_goto (tgt := 143) hx hb d_En_doSecond_102 (by decide) ?_
              subst hZ
              exact tz_ret (W.vret hx hb hr (fun t ht hW => ⟨⟨fun v9 hv9 => by cases hv9; exact (⟨he, dp, rfl, c34, by rw [ht]; exact hI.1⟩), fun x9 hx9 => (by cases hx9)⟩, hI.2.F ht⟩) hI.2.2.2 d_En_doSecond_143)
            · rcases hpost.2 _ rfl with ⟨hex, c35, hI1⟩
              have hI : sI (dC, dI) vcl cI cJ (gsC a he dp co li op wd tl lc fo sf lf nf) A s.heap H1 locs1 := ⟨by rw [← ht]; exact hI1, hS⟩
              refine tz_widen (k := 1) (n := 6) (Nat.le_of_ble_eq_true rfl) (Nat.le_of_ble_eq_true rfl) ?_
              subst hZ
              exact tz_leave (tx_noH B (hts _ mw_794) _) (fun t9 ht9 hW9 => ⟨⟨fun v9 hv9 => (by cases hv9), fun x9 hx9 => by cases hx9; exact (Or.inr (Or.inl ⟨he, dp, ta_exm hex ht ht9 hWt hW9, c35, by rw [ht9]; exact hI.1⟩))⟩, hI.2.F ht9⟩) hI.2.2.2 hlocks
          by_cases b36 : z30.toInt = 12
          · refine sn_tin (v := 12) (off := 45) (tgt := 105) hx hb d_En_doSecond_60 b36 (by decide) (by decide) (by decide) (by decide) ?_
            refine lv_aload_n hx hb d_En_doSecond_105 rfl (lv_at hl 0 rfl) ?_
            refine sv_getr (C := "StoryMachine$Engine") (T := T_En) (N := 15) hx hb hts in_En hown hK hI 5 kC_5 rfl 5 (by decide) (hts _ mw_266) rfl d_En_doSecond_106 ?_
            refine lv_iload_n hx hb d_En_doSecond_109 rfl (lv_at hl 1 rfl) ?_
            refine lv_iload_n hx hb d_En_doSecond_110 rfl (lv_at hl 2 rfl) ?_
            refine sn_iconst hx hb d_En_doSecond_111 (by decide) (fun z37 hz37 => ?_)
            refine tz_call (A1 := ga (adC a) H.size) (tz_runV (C := "StoryMachine$Tree") (As := [.int x1, .int x2, .int z37]) (rest := []) ⟨hx, hb, hml, hown, hts⟩ (c_Tr_setAttribute l hfl dC dI cI cJ a H.size he dp co li op wd tl lc fo sf lf nf x1 x2 z37 c26) (tx_cb (n := 3) hts rfl rfl ⟨Nat.le_of_ble_eq_true rfl, Nat.le_of_ble_eq_true rfl⟩ (tx_code.of (hts _ mw_859)) (hts _ mw_9) (by decide +kernel) (hts _ mw_856)) (hts _ mw_857) (hts _ mw_858) ⟨tz_blind, sv_recv (q0 := 17) hts in_Tr hK hI kC_17 rfl, fun U hU hW => ⟨rfl, by rw [hU], by rw [hU]; exact hI.1, va_K.moved hW.alike hK, hst _ _ hI.2 U hU hW⟩⟩ rfl rfl hl.1 rfl (lv_room (Nat.le_of_ble_eq_true rfl)) d_En_doSecond_112 ⟨Nat.le_of_ble_eq_true rfl, Nat.le_of_ble_eq_true rfl⟩) hI.2 (fun q _ h => ga_sub hAC hA0 hI.2 q h) (ga_sub hAC hA0 hI.2) (fun v t H1 locs1 ht hWt hpost _ _ hS => ?_) (fun x t H1 locs1 ht hWt hpost _ _ hS => ?_)
            · rcases hpost.1 _ rfl with ⟨hv, c38, c38_0, c38_1, c38_2, hI1⟩
              cases hv
              have hI : sI (dC, dI) vcl cI cJ (gsC a he dp co li op wd tl lc fo sf lf nf) A s.heap H1 locs1 := ⟨by rw [← ht]; exact hI1, hS⟩
              clear hpost hI1 hS ht hWt
              revert hI; generalize H1 = H; generalize locs1 = locs; intro hI
              refine lv_goto (tgt := 143) hx hb d_En_doSecond_115 (by decide) ?_
              subst hZ
              exact tz_ret (W.vret hx hb hr (fun t ht hW => ⟨⟨fun v9 hv9 => by cases hv9; exact (⟨he, dp, rfl, c38, by rw [ht]; exact hI.1⟩), fun x9 hx9 => (by cases hx9)⟩, hI.2.F ht⟩) hI.2.2.2 d_En_doSecond_143)
            · rcases hpost.2 _ rfl with ⟨hex, c39, hI1⟩
              have hI : sI (dC, dI) vcl cI cJ (gsC a he dp co li op wd tl lc fo sf lf nf) A s.heap H1 locs1 := ⟨by rw [← ht]; exact hI1, hS⟩
              refine tz_widen (k := 1) (n := 6) (Nat.le_of_ble_eq_true rfl) (Nat.le_of_ble_eq_true rfl) ?_
              subst hZ
              exact tz_leave (tx_noH B (hts _ mw_794) _) (fun t9 ht9 hW9 => ⟨⟨fun v9 hv9 => (by cases hv9), fun x9 hx9 => by cases hx9; exact (Or.inr (Or.inl ⟨he, dp, ta_exm hex ht ht9 hWt hW9, c39, by rw [ht9]; exact hI.1⟩))⟩, hI.2.F ht9⟩) hI.2.2.2 hlocks
          by_cases b40 : z30.toInt = 13
          · refine sn_tin (v := 13) (off := 58) (tgt := 118) hx hb d_En_doSecond_60 b40 (by decide) (by decide) (by decide) (by decide) ?_
            refine lv_aload_n hx hb d_En_doSecond_118 rfl (lv_at hl 0 rfl) ?_
            refine sv_getr (C := "StoryMachine$Engine") (T := T_En) (N := 15) hx hb hts in_En hown hK hI 5 kC_5 rfl 4 (by decide) (hts _ mw_265) rfl d_En_doSecond_119 ?_
            refine lv_iload_n hx hb d_En_doSecond_122 rfl (lv_at hl 1 rfl) ?_
            refine lv_iload_n hx hb d_En_doSecond_123 rfl (lv_at hl 2 rfl) ?_
            refine sn_iconst hx hb d_En_doSecond_124 (by decide) (fun z41 hz41 => ?_)
            refine tz_call (A1 := ga (adC a) H.size) (tz_runV (C := "StoryMachine$Variables") (As := [.int x1, .int x2, .int z41]) (rest := []) ⟨hx, hb, hml, hown, hts⟩ (c_Va_write l hfl dC dI cI cJ a H.size he dp co li op wd tl lc fo sf lf nf x1 x2 z41 c26) (tx_cb (n := 3) hts rfl rfl ⟨Nat.le_of_ble_eq_true rfl, Nat.le_of_ble_eq_true rfl⟩ (tx_code.of (hts _ mw_619)) (hts _ mw_8) (by decide +kernel) (hts _ mw_616)) (hts _ mw_617) (hts _ mw_618) ⟨tz_blind, sv_recv (q0 := 16) hts in_Va hK hI kC_16 rfl, fun U hU hW => ⟨rfl, by rw [hU], by rw [hU]; exact hI.1, va_K.moved hW.alike hK, hst _ _ hI.2 U hU hW⟩⟩ rfl rfl hl.1 rfl (lv_room (Nat.le_of_ble_eq_true rfl)) d_En_doSecond_125 ⟨Nat.le_of_ble_eq_true rfl, Nat.le_of_ble_eq_true rfl⟩) hI.2 (fun q _ h => ga_sub hAC hA0 hI.2 q h) (ga_sub hAC hA0 hI.2) (fun v t H1 locs1 ht hWt hpost _ _ hS => ?_) (fun x t H1 locs1 ht hWt hpost _ _ hS => ?_)
            · rcases hpost.1 _ rfl with ⟨t_he42, hv, c43, c43_0, c43_1, hI1⟩
              cases hv
              have hI : sI (dC, dI) vcl cI cJ (gsC a t_he42 dp co li op wd tl lc fo sf lf nf) A s.heap H1 locs1 := ⟨by rw [← ht]; exact hI1, hS⟩
              obtain ⟨⟨o44, o45⟩, -, -, -, -, -, -, -, -, -, -, -⟩ := id c43
              clear hpost hI1 hS ht hWt
              revert hI; generalize H1 = H; generalize locs1 = locs; intro hI
              refine lv_goto (tgt := 143) hx hb d_En_doSecond_128 (by decide) ?_
              subst hZ
              exact tz_ret (W.vret hx hb hr (fun t ht hW => ⟨⟨fun v9 hv9 => by cases hv9; exact (⟨t_he42, dp, rfl, c43, by rw [ht]; exact hI.1⟩), fun x9 hx9 => (by cases hx9)⟩, hI.2.F ht⟩) hI.2.2.2 d_En_doSecond_143)
            · rcases hpost.2 _ rfl with ⟨hex, c46, hI1⟩ | ⟨hex, c47, c47_0, c47_1, hI1⟩
              · have hI : sI (dC, dI) vcl cI cJ (gsC a he dp co li op wd tl lc fo sf lf nf) A s.heap H1 locs1 := ⟨by rw [← ht]; exact hI1, hS⟩
                refine tz_widen (k := 1) (n := 6) (Nat.le_of_ble_eq_true rfl) (Nat.le_of_ble_eq_true rfl) ?_
                subst hZ
                exact tz_leave (tx_noH B (hts _ mw_794) _) (fun t9 ht9 hW9 => ⟨⟨fun v9 hv9 => (by cases hv9), fun x9 hx9 => by cases hx9; exact (Or.inr (Or.inl ⟨he, dp, ta_exm hex ht ht9 hWt hW9, c46, by rw [ht9]; exact hI.1⟩))⟩, hI.2.F ht9⟩) hI.2.2.2 hlocks
              · have hI : sI (dC, dI) vcl cI cJ (gsC a he dp co li op wd tl lc fo sf lf nf) A s.heap H1 locs1 := ⟨by rw [← ht]; exact hI1, hS⟩
                refine tz_widen (k := 1) (n := 6) (Nat.le_of_ble_eq_true rfl) (Nat.le_of_ble_eq_true rfl) ?_
                subst hZ
                exact tz_leave (tx_noH B (hts _ mw_794) _) (fun t9 ht9 hW9 => ⟨⟨fun v9 hv9 => (by cases hv9), fun x9 hx9 => by cases hx9; exact (Or.inr (Or.inr (⟨he, dp, ta_exm hex ht ht9 hWt hW9, c47, by rw [ht9]; exact hI.1⟩)))⟩, hI.2.F ht9⟩) hI.2.2.2 hlocks
          by_cases b48 : z30.toInt = 14
          · refine sn_tin (v := 14) (off := 71) (tgt := 131) hx hb d_En_doSecond_60 b48 (by decide) (by decide) (by decide) (by decide) ?_
            refine lv_aload_n hx hb d_En_doSecond_131 rfl (lv_at hl 0 rfl) ?_
            refine sv_getr (C := "StoryMachine$Engine") (T := T_En) (N := 15) hx hb hts in_En hown hK hI 5 kC_5 rfl 5 (by decide) (hts _ mw_266) rfl d_En_doSecond_132 ?_
            refine lv_iload_n hx hb d_En_doSecond_135 rfl (lv_at hl 1 rfl) ?_
            refine lv_iload_n hx hb d_En_doSecond_136 rfl (lv_at hl 2 rfl) ?_
            refine tz_call (A1 := ga (adC a) H.size) (tz_runV (C := "StoryMachine$Tree") (As := [.int x1, .int x2]) (rest := []) ⟨hx, hb, hml, hown, hts⟩ (c_Tr_putInto l hfl dC dI cI cJ a H.size he dp co li op wd tl lc fo sf lf nf x1 x2 c26) (tx_cb (n := 2) hts rfl rfl ⟨Nat.le_of_ble_eq_true rfl, Nat.le_of_ble_eq_true rfl⟩ (tx_code.of (hts _ mw_863)) (hts _ mw_9) (by decide +kernel) (hts _ mw_860)) (hts _ mw_861) (hts _ mw_862) ⟨tz_blind, sv_recv (q0 := 17) hts in_Tr hK hI kC_17 rfl, fun U hU hW => ⟨rfl, by rw [hU], by rw [hU]; exact hI.1, va_K.moved hW.alike hK, hst _ _ hI.2 U hU hW⟩⟩ rfl rfl hl.1 rfl (lv_room (Nat.le_of_ble_eq_true rfl)) d_En_doSecond_137 ⟨Nat.le_of_ble_eq_true rfl, Nat.le_of_ble_eq_true rfl⟩) hI.2 (fun q _ h => ga_sub hAC hA0 hI.2 q h) (ga_sub hAC hA0 hI.2) (fun v t H1 locs1 ht hWt hpost _ _ hS => ?_) (fun x t H1 locs1 ht hWt hpost _ _ hS => ?_)
            · rcases hpost.1 _ rfl with ⟨hv, c49, c49_0, c49_1, c49_2, c49_3, hI1⟩
              cases hv
              have hI : sI (dC, dI) vcl cI cJ (gsC a he dp co li op wd tl lc fo sf lf nf) A s.heap H1 locs1 := ⟨by rw [← ht]; exact hI1, hS⟩
              clear hpost hI1 hS ht hWt
              revert hI; generalize H1 = H; generalize locs1 = locs; intro hI
              refine lv_goto (tgt := 143) hx hb d_En_doSecond_140 (by decide) ?_
              subst hZ
              exact tz_ret (W.vret hx hb hr (fun t ht hW => ⟨⟨fun v9 hv9 => by cases hv9; exact (⟨he, dp, rfl, c49, by rw [ht]; exact hI.1⟩), fun x9 hx9 => (by cases hx9)⟩, hI.2.F ht⟩) hI.2.2.2 d_En_doSecond_143)
            · rcases hpost.2 _ rfl with ⟨hex, c50, hI1⟩
              have hI : sI (dC, dI) vcl cI cJ (gsC a he dp co li op wd tl lc fo sf lf nf) A s.heap H1 locs1 := ⟨by rw [← ht]; exact hI1, hS⟩
              refine tz_widen (k := 1) (n := 6) (Nat.le_of_ble_eq_true rfl) (Nat.le_of_ble_eq_true rfl) ?_
              subst hZ
              exact tz_leave (tx_noH B (hts _ mw_794) _) (fun t9 ht9 hW9 => ⟨⟨fun v9 hv9 => (by cases hv9), fun x9 hx9 => by cases hx9; exact (Or.inr (Or.inl ⟨he, dp, ta_exm hex ht ht9 hWt hW9, c50, by rw [ht9]; exact hI.1⟩))⟩, hI.2.F ht9⟩) hI.2.2.2 hlocks
          exact lv_tableOut (tgt := 143) hx hb d_En_doSecond_60 (by omega) (by decide) w31
        · omega
      · cases hv
        have hI : sI (dC, dI) vcl cI cJ (gsC a he dp co li op wd tl lc fo sf lf nf) A s.heap H1 locs1 := ⟨by rw [← ht]; exact hI1, hS⟩
        clear hpost hI1 hS ht hWt
        revert hI; generalize H1 = H; generalize locs1 = locs; intro hI
        refine sn_if_eq (tgt := 53) hx hb d_En_doSecond_28 (by decide) (fun b51 => ?_) (fun b51 => ?_)
        · omega
        · refine lv_aload_n hx hb d_En_doSecond_31 rfl (lv_at hl 0 rfl) ?_
          refine sv_getr (C := "StoryMachine$Engine") (T := T_En) (N := 15) hx hb hts in_En hown hK hI 5 kC_5 rfl 4 (by decide) (hts _ mw_265) rfl d_En_doSecond_32 ?_
          refine lv_aload_n hx hb d_En_doSecond_35 rfl (lv_at hl 0 rfl) ?_
          refine sv_getr (C := "StoryMachine$Engine") (T := T_En) (N := 15) hx hb hts in_En hown hK hI 5 kC_5 rfl 7 (by decide) (hts _ mw_268) rfl d_En_doSecond_36 ?_
          refine sv_get (C := "StoryMachine$Instruction") (T := T_In) (N := 11) hx hb hts in_In hown hK hI 19 kC_19 rfl 7 (by decide) (hts _ mw_232) rfl d_En_doSecond_39 (fun z52 hz52a hz52b => ?_)
          refine lv_aload_n hx hb d_En_doSecond_42 rfl (lv_at hl 0 rfl) ?_
          refine lv_iload_n hx hb d_En_doSecond_43 rfl (lv_at hl 1 rfl) ?_
          refine lv_iload_n hx hb d_En_doSecond_44 rfl (lv_at hl 2 rfl) ?_
          refine tz_call (A1 := ga (adC a) H.size) (tz_runV (C := "StoryMachine$Engine") (As := [.int x1, .int x2]) (rest := [.int z52, .ref (a 16)]) ⟨hx, hb, hml, hown, hts⟩ (c_En_secondValue l hfl dC dI cI cJ a H.size he dp co li op wd tl lc fo sf lf nf x1 x2 c28 (by omega) (by omega) (by omega) (by omega)) (tx_cb (n := 2) hts rfl rfl ⟨Nat.le_of_ble_eq_true rfl, Nat.le_of_ble_eq_true rfl⟩ (tx_code.of (hts _ mw_814)) (hts _ mw_6) (by decide +kernel) (hts _ mw_811)) (hts _ mw_813) (hts _ ms_En_secondValue) ⟨tz_blind, sv_recv (q0 := 5) hts in_En hK hI kC_5 rfl, fun U hU hW => ⟨rfl, by rw [hU], by rw [hU]; exact hI.1, va_K.moved hW.alike hK, hst _ _ hI.2 U hU hW⟩⟩ rfl rfl hl.1 rfl (lv_room (Nat.le_of_ble_eq_true rfl)) d_En_doSecond_45 ⟨Nat.le_of_ble_eq_true rfl, Nat.le_of_ble_eq_true rfl⟩) hI.2 (fun q _ h => ga_sub hAC hA0 hI.2 q h) (ga_sub hAC hA0 hI.2) (fun v t H1 locs1 ht hWt hpost _ _ hS => ?_) (fun x t H1 locs1 ht hWt hpost _ _ hS => ?_)
          · rcases hpost.1 _ rfl with ⟨z53, hv, c54, c54_0, c54_1, hI1⟩
            cases hv
            have hI : sI (dC, dI) vcl cI cJ (gsC a he dp co li op wd tl lc fo sf lf nf) A s.heap H1 locs1 := ⟨by rw [← ht]; exact hI1, hS⟩
            clear hpost hI1 hS ht hWt
            revert hI; generalize H1 = H; generalize locs1 = locs; intro hI
            refine sn_iconst hx hb d_En_doSecond_48 (by decide) (fun z55 hz55 => ?_)
            refine tz_call (A1 := ga (adC a) H.size) (tz_runV (C := "StoryMachine$Variables") (As := [.int z52, .int z53, .int z55]) (rest := []) ⟨hx, hb, hml, hown, hts⟩ (c_Va_write l hfl dC dI cI cJ a H.size he dp co li op wd tl lc fo sf lf nf z52 z53 z55 c54) (tx_cb (n := 3) hts rfl rfl ⟨Nat.le_of_ble_eq_true rfl, Nat.le_of_ble_eq_true rfl⟩ (tx_code.of (hts _ mw_619)) (hts _ mw_8) (by decide +kernel) (hts _ mw_616)) (hts _ mw_617) (hts _ mw_618) ⟨tz_blind, sv_recv (q0 := 16) hts in_Va hK hI kC_16 rfl, fun U hU hW => ⟨rfl, by rw [hU], by rw [hU]; exact hI.1, va_K.moved hW.alike hK, hst _ _ hI.2 U hU hW⟩⟩ rfl rfl hl.1 rfl (lv_room (Nat.le_of_ble_eq_true rfl)) d_En_doSecond_49 ⟨Nat.le_of_ble_eq_true rfl, Nat.le_of_ble_eq_true rfl⟩) hI.2 (fun q _ h => ga_sub hAC hA0 hI.2 q h) (ga_sub hAC hA0 hI.2) (fun v t H1 locs1 ht hWt hpost _ _ hS => ?_) (fun x t H1 locs1 ht hWt hpost _ _ hS => ?_)
            · rcases hpost.1 _ rfl with ⟨t_he56, hv, c57, c57_0, c57_1, hI1⟩
              cases hv
              have hI : sI (dC, dI) vcl cI cJ (gsC a t_he56 dp co li op wd tl lc fo sf lf nf) A s.heap H1 locs1 := ⟨by rw [← ht]; exact hI1, hS⟩
              obtain ⟨⟨o58, o59⟩, -, -, -, -, -, -, -, -, -, -, -⟩ := id c57
              clear hpost hI1 hS ht hWt
              revert hI; generalize H1 = H; generalize locs1 = locs; intro hI
              subst hZ
              exact tz_ret (W.vret hx hb hr (fun t ht hW => ⟨⟨fun v9 hv9 => by cases hv9; exact (⟨t_he56, dp, rfl, c57, by rw [ht]; exact hI.1⟩), fun x9 hx9 => (by cases hx9)⟩, hI.2.F ht⟩) hI.2.2.2 d_En_doSecond_52)
            · rcases hpost.2 _ rfl with ⟨hex, c60, hI1⟩ | ⟨hex, c61, c61_0, c61_1, hI1⟩
              · have hI : sI (dC, dI) vcl cI cJ (gsC a he dp co li op wd tl lc fo sf lf nf) A s.heap H1 locs1 := ⟨by rw [← ht]; exact hI1, hS⟩
                refine tz_widen (k := 1) (n := 6) (Nat.le_of_ble_eq_true rfl) (Nat.le_of_ble_eq_true rfl) ?_
                subst hZ
                exact tz_leave (tx_noH B (hts _ mw_794) _) (fun t9 ht9 hW9 => ⟨⟨fun v9 hv9 => (by cases hv9), fun x9 hx9 => by cases hx9; exact (Or.inr (Or.inl ⟨he, dp, ta_exm hex ht ht9 hWt hW9, c60, by rw [ht9]; exact hI.1⟩))⟩, hI.2.F ht9⟩) hI.2.2.2 hlocks
              · have hI : sI (dC, dI) vcl cI cJ (gsC a he dp co li op wd tl lc fo sf lf nf) A s.heap H1 locs1 := ⟨by rw [← ht]; exact hI1, hS⟩
                refine tz_widen (k := 1) (n := 6) (Nat.le_of_ble_eq_true rfl) (Nat.le_of_ble_eq_true rfl) ?_
                subst hZ
                exact tz_leave (tx_noH B (hts _ mw_794) _) (fun t9 ht9 hW9 => ⟨⟨fun v9 hv9 => (by cases hv9), fun x9 hx9 => by cases hx9; exact (Or.inr (Or.inr (⟨he, dp, ta_exm hex ht ht9 hWt hW9, c61, by rw [ht9]; exact hI.1⟩)))⟩, hI.2.F ht9⟩) hI.2.2.2 hlocks
          · rcases hpost.2 _ rfl with ⟨hex, c62, c62_0, hI1⟩ | ⟨hex, c63, c63_0, c63_1, hI1⟩
            · have hI : sI (dC, dI) vcl cI cJ (gsC a he dp co li op wd tl lc fo sf lf nf) A s.heap H1 locs1 := ⟨by rw [← ht]; exact hI1, hS⟩
              refine tz_widen (k := 1) (n := 6) (Nat.le_of_ble_eq_true rfl) (Nat.le_of_ble_eq_true rfl) ?_
              subst hZ
              exact tz_leave (tx_noH B (hts _ mw_794) _) (fun t9 ht9 hW9 => ⟨⟨fun v9 hv9 => (by cases hv9), fun x9 hx9 => by cases hx9; exact (Or.inl ⟨ta_exm hex ht ht9 hWt hW9, c62, by omega, by rw [ht9]; exact hI.1⟩)⟩, hI.2.F ht9⟩) hI.2.2.2 hlocks
            · have hI : sI (dC, dI) vcl cI cJ (gsC a he dp co li op wd tl lc fo sf lf nf) A s.heap H1 locs1 := ⟨by rw [← ht]; exact hI1, hS⟩
              refine tz_widen (k := 1) (n := 6) (Nat.le_of_ble_eq_true rfl) (Nat.le_of_ble_eq_true rfl) ?_
              subst hZ
              exact tz_leave (tx_noH B (hts _ mw_794) _) (fun t9 ht9 hW9 => ⟨⟨fun v9 hv9 => (by cases hv9), fun x9 hx9 => by cases hx9; exact (Or.inr (Or.inl ⟨he, dp, ta_exm hex ht ht9 hWt hW9, c63, by rw [ht9]; exact hI.1⟩))⟩, hI.2.F ht9⟩) hI.2.2.2 hlocks
    · omega
  · cases hv
    have hI : sI (dC, dI) vcl cI cJ (gsC a he dp co li op wd tl lc fo sf lf nf) A s.heap H1 locs1 := ⟨by rw [← ht]; exact hI1, hS⟩
    clear hpost hI1 hS ht hWt
    revert hI; generalize H1 = H; generalize locs1 = locs; intro hI
    refine sn_if_eq (tgt := 21) hx hb d_En_doSecond_7 (by decide) (fun b64 => ?_) (fun b64 => ?_)
    · omega
    · refine lv_aload_n hx hb d_En_doSecond_10 rfl (lv_at hl 0 rfl) ?_
      refine lv_aload_n hx hb d_En_doSecond_11 rfl (lv_at hl 0 rfl) ?_
      refine lv_iload_n hx hb d_En_doSecond_12 rfl (lv_at hl 1 rfl) ?_
      refine lv_iload_n hx hb d_En_doSecond_13 rfl (lv_at hl 2 rfl) ?_
      refine tz_call (A1 := ga (adC a) H.size) (tz_runV (C := "StoryMachine$Engine") (As := [.int x1, .int x2]) (rest := [.ref (a 5)]) ⟨hx, hb, hml, hown, hts⟩ (c_En_secondAsks l hfl dC dI cI cJ a H.size he dp co li op wd tl lc fo sf lf nf x1 x2 c23 (by omega) (by omega) (by omega) (by omega)) (tx_cb (n := 2) hts rfl rfl ⟨Nat.le_of_ble_eq_true rfl, Nat.le_of_ble_eq_true rfl⟩ (tx_code.of (hts _ mw_798)) (hts _ mw_6) (by decide +kernel) (hts _ mw_795)) (hts _ mw_797) (hts _ ms_En_secondAsks) ⟨tz_blind, sv_recv (q0 := 5) hts in_En hK hI kC_5 rfl, fun U hU hW => ⟨rfl, by rw [hU], by rw [hU]; exact hI.1, va_K.moved hW.alike hK, hst _ _ hI.2 U hU hW⟩⟩ rfl rfl hl.1 rfl (lv_room (Nat.le_of_ble_eq_true rfl)) d_En_doSecond_14 ⟨Nat.le_of_ble_eq_true rfl, Nat.le_of_ble_eq_true rfl⟩) hI.2 (fun q _ h => ga_sub hAC hA0 hI.2 q h) (ga_sub hAC hA0 hI.2) (fun v t H1 locs1 ht hWt hpost _ _ hS => ?_) (fun x t H1 locs1 ht hWt hpost _ _ hS => ?_)
      · rcases hpost.1 _ rfl with ⟨z65, t_he66, hv, c67, c67_0, c67_1, hI1⟩ | ⟨z68, t_he69, hv, c70, c70_0, c70_1, hI1⟩
        · cases hv
          have hI : sI (dC, dI) vcl cI cJ (gsC a t_he66 dp co li op wd tl lc fo sf lf nf) A s.heap H1 locs1 := ⟨by rw [← ht]; exact hI1, hS⟩
          obtain ⟨⟨o71, o72⟩, -, -, -, -, -, -, -, -, -, -, -⟩ := id c67
          clear hpost hI1 hS ht hWt
          revert hI; generalize H1 = H; generalize locs1 = locs; intro hI
          refine tz_call (A1 := ga (adC a) H.size) (tz_runV (C := "StoryMachine$Engine") (As := [.int z65]) (rest := []) ⟨hx, hb, hml, hown, hts⟩ (c_En_branch l hfl dC dI cI cJ a H.size t_he66 dp co li op wd tl lc fo sf lf nf z65 c67 (by omega) (by omega)) (tx_cb (n := 1) hts rfl rfl ⟨Nat.le_of_ble_eq_true rfl, Nat.le_of_ble_eq_true rfl⟩ (tx_code.of (hts _ mw_706)) (hts _ mw_6) (by decide +kernel) (hts _ mw_703)) (hts _ mw_705) (hts _ ms_En_branch) ⟨tz_blind, sv_recv (q0 := 5) hts in_En hK hI kC_5 rfl, fun U hU hW => ⟨rfl, by rw [hU], by rw [hU]; exact hI.1, va_K.moved hW.alike hK, hst _ _ hI.2 U hU hW⟩⟩ rfl rfl hl.1 rfl (lv_room (Nat.le_of_ble_eq_true rfl)) d_En_doSecond_17 ⟨Nat.le_of_ble_eq_true rfl, Nat.le_of_ble_eq_true rfl⟩) hI.2 (fun q _ h => ga_sub hAC hA0 hI.2 q h) (ga_sub hAC hA0 hI.2) (fun v t H1 locs1 ht hWt hpost _ _ hS => ?_) (fun x t H1 locs1 ht hWt hpost _ _ hS => ?_)
          · rcases hpost.1 _ rfl with ⟨t_he73, t_dp74, hv, c75, hI1⟩
            cases hv
            have hI : sI (dC, dI) vcl cI cJ (gsC a t_he73 t_dp74 co li op wd tl lc fo sf lf nf) A s.heap H1 locs1 := ⟨by rw [← ht]; exact hI1, hS⟩
            obtain ⟨⟨o76, o77⟩, ⟨o78, o79⟩, -, -, -, -, -, -, -, -, -, -⟩ := id c75
            clear hpost hI1 hS ht hWt
            revert hI; generalize H1 = H; generalize locs1 = locs; intro hI
            subst hZ
            exact tz_ret (W.vret hx hb hr (fun t ht hW => ⟨⟨fun v9 hv9 => by cases hv9; exact (⟨t_he73, t_dp74, rfl, c75, by rw [ht]; exact hI.1⟩), fun x9 hx9 => (by cases hx9)⟩, hI.2.F ht⟩) hI.2.2.2 d_En_doSecond_20)
          · rcases hpost.2 _ rfl with ⟨t_he80, t_dp81, hex, c82, c82_0, hI1⟩ | ⟨t_he83, t_dp84, hex, c85, c85_0, c85_1, hI1⟩
            · have hI : sI (dC, dI) vcl cI cJ (gsC a t_he80 t_dp81 co li op wd tl lc fo sf lf nf) A s.heap H1 locs1 := ⟨by rw [← ht]; exact hI1, hS⟩
              obtain ⟨⟨o86, o87⟩, ⟨o88, o89⟩, -, -, -, -, -, -, -, -, -, -⟩ := id c82
              refine tz_widen (k := 1) (n := 6) (Nat.le_of_ble_eq_true rfl) (Nat.le_of_ble_eq_true rfl) ?_
              subst hZ
              exact tz_leave (tx_noH B (hts _ mw_794) _) (fun t9 ht9 hW9 => ⟨⟨fun v9 hv9 => (by cases hv9), fun x9 hx9 => by cases hx9; exact (Or.inr (Or.inl ⟨t_he80, t_dp81, ta_exm hex ht ht9 hWt hW9, c82, by rw [ht9]; exact hI.1⟩))⟩, hI.2.F ht9⟩) hI.2.2.2 hlocks
            · have hI : sI (dC, dI) vcl cI cJ (gsC a t_he83 t_dp84 co li op wd tl lc fo sf lf nf) A s.heap H1 locs1 := ⟨by rw [← ht]; exact hI1, hS⟩
              obtain ⟨⟨o90, o91⟩, ⟨o92, o93⟩, -, -, -, -, -, -, -, -, -, -⟩ := id c85
              refine tz_widen (k := 1) (n := 6) (Nat.le_of_ble_eq_true rfl) (Nat.le_of_ble_eq_true rfl) ?_
              subst hZ
              exact tz_leave (tx_noH B (hts _ mw_794) _) (fun t9 ht9 hW9 => ⟨⟨fun v9 hv9 => (by cases hv9), fun x9 hx9 => by cases hx9; exact (Or.inr (Or.inr (⟨t_he83, t_dp84, ta_exm hex ht ht9 hWt hW9, c85, by rw [ht9]; exact hI.1⟩)))⟩, hI.2.F ht9⟩) hI.2.2.2 hlocks
        · cases hv
          have hI : sI (dC, dI) vcl cI cJ (gsC a t_he69 dp co li op wd tl lc fo sf lf nf) A s.heap H1 locs1 := ⟨by rw [← ht]; exact hI1, hS⟩
          obtain ⟨⟨o94, o95⟩, -, -, -, -, -, -, -, -, -, -, -⟩ := id c70
          clear hpost hI1 hS ht hWt
          revert hI; generalize H1 = H; generalize locs1 = locs; intro hI
          refine tz_call (A1 := ga (adC a) H.size) (tz_runV (C := "StoryMachine$Engine") (As := [.int z68]) (rest := []) ⟨hx, hb, hml, hown, hts⟩ (c_En_branch l hfl dC dI cI cJ a H.size t_he69 dp co li op wd tl lc fo sf lf nf z68 c70 (by omega) (by omega)) (tx_cb (n := 1) hts rfl rfl ⟨Nat.le_of_ble_eq_true rfl, Nat.le_of_ble_eq_true rfl⟩ (tx_code.of (hts _ mw_706)) (hts _ mw_6) (by decide +kernel) (hts _ mw_703)) (hts _ mw_705) (hts _ ms_En_branch) ⟨tz_blind, sv_recv (q0 := 5) hts in_En hK hI kC_5 rfl, fun U hU hW => ⟨rfl, by rw [hU], by rw [hU]; exact hI.1, va_K.moved hW.alike hK, hst _ _ hI.2 U hU hW⟩⟩ rfl rfl hl.1 rfl (lv_room (Nat.le_of_ble_eq_true rfl)) d_En_doSecond_17 ⟨Nat.le_of_ble_eq_true rfl, Nat.le_of_ble_eq_true rfl⟩) hI.2 (fun q _ h => ga_sub hAC hA0 hI.2 q h) (ga_sub hAC hA0 hI.2) (fun v t H1 locs1 ht hWt hpost _ _ hS => ?_) (fun x t H1 locs1 ht hWt hpost _ _ hS => ?_)
          · rcases hpost.1 _ rfl with ⟨t_he96, t_dp97, hv, c98, hI1⟩
            cases hv
            have hI : sI (dC, dI) vcl cI cJ (gsC a t_he96 t_dp97 co li op wd tl lc fo sf lf nf) A s.heap H1 locs1 := ⟨by rw [← ht]; exact hI1, hS⟩
            obtain ⟨⟨o99, o100⟩, ⟨o101, o102⟩, -, -, -, -, -, -, -, -, -, -⟩ := id c98
            clear hpost hI1 hS ht hWt
            revert hI; generalize H1 = H; generalize locs1 = locs; intro hI
            subst hZ
            exact tz_ret (W.vret hx hb hr (fun t ht hW => ⟨⟨fun v9 hv9 => by cases hv9; exact (⟨t_he96, t_dp97, rfl, c98, by rw [ht]; exact hI.1⟩), fun x9 hx9 => (by cases hx9)⟩, hI.2.F ht⟩) hI.2.2.2 d_En_doSecond_20)
          · rcases hpost.2 _ rfl with ⟨t_he103, t_dp104, hex, c105, c105_0, hI1⟩ | ⟨t_he106, t_dp107, hex, c108, c108_0, c108_1, hI1⟩
            · have hI : sI (dC, dI) vcl cI cJ (gsC a t_he103 t_dp104 co li op wd tl lc fo sf lf nf) A s.heap H1 locs1 := ⟨by rw [← ht]; exact hI1, hS⟩
              obtain ⟨⟨o109, o110⟩, ⟨o111, o112⟩, -, -, -, -, -, -, -, -, -, -⟩ := id c105
              refine tz_widen (k := 1) (n := 6) (Nat.le_of_ble_eq_true rfl) (Nat.le_of_ble_eq_true rfl) ?_
              subst hZ
              exact tz_leave (tx_noH B (hts _ mw_794) _) (fun t9 ht9 hW9 => ⟨⟨fun v9 hv9 => (by cases hv9), fun x9 hx9 => by cases hx9; exact (Or.inr (Or.inl ⟨t_he103, t_dp104, ta_exm hex ht ht9 hWt hW9, c105, by rw [ht9]; exact hI.1⟩))⟩, hI.2.F ht9⟩) hI.2.2.2 hlocks
            · have hI : sI (dC, dI) vcl cI cJ (gsC a t_he106 t_dp107 co li op wd tl lc fo sf lf nf) A s.heap H1 locs1 := ⟨by rw [← ht]; exact hI1, hS⟩
              obtain ⟨⟨o113, o114⟩, ⟨o115, o116⟩, -, -, -, -, -, -, -, -, -, -⟩ := id c108
              refine tz_widen (k := 1) (n := 6) (Nat.le_of_ble_eq_true rfl) (Nat.le_of_ble_eq_true rfl) ?_
              subst hZ
              exact tz_leave (tx_noH B (hts _ mw_794) _) (fun t9 ht9 hW9 => ⟨⟨fun v9 hv9 => (by cases hv9), fun x9 hx9 => by cases hx9; exact (Or.inr (Or.inr (⟨t_he106, t_dp107, ta_exm hex ht ht9 hWt hW9, c108, by rw [ht9]; exact hI.1⟩)))⟩, hI.2.F ht9⟩) hI.2.2.2 hlocks
      · rcases hpost.2 _ rfl with ⟨t_he117, hex, c118, hI1⟩ | ⟨t_he119, hex, c120, c120_0, c120_1, c120_2, hI1⟩
        · have hI : sI (dC, dI) vcl cI cJ (gsC a t_he117 dp co li op wd tl lc fo sf lf nf) A s.heap H1 locs1 := ⟨by rw [← ht]; exact hI1, hS⟩
          obtain ⟨⟨o121, o122⟩, -, -, -, -, -, -, -, -, -, -, -⟩ := id c118
          refine tz_widen (k := 1) (n := 6) (Nat.le_of_ble_eq_true rfl) (Nat.le_of_ble_eq_true rfl) ?_
          subst hZ
          exact tz_leave (tx_noH B (hts _ mw_794) _) (fun t9 ht9 hW9 => ⟨⟨fun v9 hv9 => (by cases hv9), fun x9 hx9 => by cases hx9; exact (Or.inr (Or.inl ⟨t_he117, dp, ta_exm hex ht ht9 hWt hW9, c118, by rw [ht9]; exact hI.1⟩))⟩, hI.2.F ht9⟩) hI.2.2.2 hlocks
        · have hI : sI (dC, dI) vcl cI cJ (gsC a t_he119 dp co li op wd tl lc fo sf lf nf) A s.heap H1 locs1 := ⟨by rw [← ht]; exact hI1, hS⟩
          obtain ⟨⟨o123, o124⟩, -, -, -, -, -, -, -, -, -, -, -⟩ := id c120
          refine tz_widen (k := 1) (n := 6) (Nat.le_of_ble_eq_true rfl) (Nat.le_of_ble_eq_true rfl) ?_
          subst hZ
          exact tz_leave (tx_noH B (hts _ mw_794) _) (fun t9 ht9 hW9 => ⟨⟨fun v9 hv9 => (by cases hv9), fun x9 hx9 => by cases hx9; exact (Or.inr (Or.inr (⟨t_he119, dp, ta_exm hex ht ht9 hWt hW9, c120, by rw [ht9]; exact hI.1⟩)))⟩, hI.2.F ht9⟩) hI.2.2.2 hlocks
