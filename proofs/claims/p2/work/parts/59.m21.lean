abbrev q_En_doFirst (dC : Nat → ClassId) (dI : Nat → Nat → Nat) (cI cJ : ClassId) (a : Nat → Nat) (he dp co li op wd tl lc fo : Int) (sf lf nf : Nat → Int32) (x1 : Int32) : Outcome → State → Prop := fun o t => (∀ v, o = .returned v → ((∃ (he_ dp_ : Int), v = none ∧ okC he_ dp_ co li op wd tl lc fo sf lf nf ∧ sh_I (dC, dI) vcl cI cJ (gsC a he_ dp_ co li op wd tl lc fo sf lf nf) t.heap))) ∧ (∀ x, o = .threw x → ((∃ (he_ dp_ : Int), ta_Ex "java/lang/IllegalArgumentException" x t ∧ okC he_ dp_ co li op wd tl lc fo sf lf nf ∧ sh_I (dC, dI) vcl cI cJ (gsC a he_ dp_ co li op wd tl lc fo sf lf nf) t.heap) ∨ (∃ (he_ dp_ : Int), ta_Ex "java/lang/IllegalStateException" x t ∧ okC he_ dp_ co li op wd tl lc fo sf lf nf ∧ sh_I (dC, dI) vcl cI cJ (gsC a he_ dp_ co li op wd tl lc fo sf lf nf) t.heap)))
def rm_En_doFirst : Room := { frames := 11, cells := 1, slots := 6, locals := 219 }
set_option maxHeartbeats 4000000 in
set_option maxRecDepth 100000 in
theorem c_En_doFirst (l : Launch) (hfl : l.flags = pinnedFlags ++ [noTraceFlag]) (dC : Nat → ClassId) (dI : Nat → Nat → Nat) (cI cJ : ClassId) (a : Nat → Nat) (sz : Nat) (he dp co li op wd tl lc fo : Int) (sf lf nf : Nat → Int32) (x1 : Int32) (hok : okC he dp co li op wd tl lc fo sf lf nf) (hp0 : 0 ≤ x1.toInt) (hp1 : x1.toInt ≤ 65535) : tz_Met l ⟨"StoryMachine$Engine", "doFirst", "(I)V"⟩ tw_tbl rm_En_doFirst (tzP (dC, dI) vcl cI cJ (gsC a he dp co li op wd tl lc fo sf lf nf) a (adC a) [.ref (a 5), .int x1] sz) (tq_Q (q_En_doFirst dC dI cI cJ a he dp co li op wd tl lc fo sf lf nf x1) (ga (adC a) sz)) 0 0 1 6 (ga (adC a) sz) := by
  refine tz_ofW (cc := prog_4_method_5_code) (maxL := 3) (ret := none) (by decide) (tx_isM mw_731) ?_
  intro p e s m args below meth c s₁ B hml hv
  obtain ⟨rfl, hsz, hI0, hK, hst0⟩ := hv
  have hx := B.exec
  have hb := B.bytes
  have hr := B.returns
  have hts := atoms_spec (ws := tw_tbl) B.pre
  have hown : s.vm.findClass "StoryMachine$Engine" = some m.cls := findClass_of_methodNamed B.named
  have hlocks := B.notSynchronized
  subst hsz
  have hst := fun (H : Heap) (locs : List Loc) (hS : va_S (ga (adC a) s.heap.size) s.heap H locs) (U : State) (hU : U.heap = H) (hW : s.WarmedH U.vm) => zS_all adC_map hI0 hst0 hS hU hW
  have hAC : ∀ q ∈ adC a, ga (adC a) s.heap.size q := fun q h => Or.inl h
  have hA0 : ∀ q, s.heap.size ≤ q → ga (adC a) s.heap.size q := fun q h => Or.inr h
  have hI : sI (dC, dI) vcl cI cJ (gsC a he dp co li op wd tl lc fo sf lf nf) (ga (adC a) s.heap.size) s.heap s.heap [] := ⟨hI0, va_S.rf⟩
  clear hI0 hst0
  have hl := lv_entry ([.ref (a 5), .int x1]) (n := 3) (Nat.le_of_ble_eq_true rfl)
  rw [lg_entry_eq]
  generalize (lg_sl ([.ref (a 5), .int x1]) ++ List.replicate (3 - (lg_sl ([.ref (a 5), .int x1])).length) Slot.unset).toArray = ls at hl ⊢
  have hl : lv_has ls 3 [(0, .ref (a 5)), (1, .int x1)] := hl
  generalize hZ : tz_MQ below (tq_Q (q_En_doFirst dC dI cI cJ a he dp co li op wd tl lc fo sf lf nf x1) (ga (adC a) s.heap.size)) ([.ref (a 5), .int x1] : List Value).toArray s 0 0 1 6 (ga (adC a) s.heap.size) = Z
  obtain ⟨A, hAe⟩ : ∃ A, A = ga (adC a) s.heap.size := ⟨_, rfl⟩
  rw [← hAe] at hst hAC hA0 hI hZ
  refine sv_start hI (fun H locs hI => ?_)
  obtain ⟨⟨o1, o2⟩, ⟨o3, o4⟩, ⟨o5, o6⟩, ⟨o7, o8⟩, ⟨o9, o10⟩, ⟨o11, o12⟩, ⟨o13, o14⟩, ⟨o15, o16⟩, ⟨o17, o18⟩, o19, -, -⟩ := id hok
  have gx1 := sn_rng x1
  refine lv_aload_n hx hb d_En_doFirst_0 rfl (lv_at hl 0 rfl) ?_
  refine sv_getr (C := "StoryMachine$Engine") (T := T_En) (N := 15) hx hb hts in_En hown hK hI 5 kC_5 rfl 7 (by decide) (hts _ mw_268) rfl d_En_doFirst_1 ?_
  refine tz_call (A1 := ga (adC a) H.size) (tz_runV (C := "StoryMachine$Instruction") (As := []) (rest := []) ⟨hx, hb, hml, hown, hts⟩ (c_In_gives l hfl dC dI cI cJ a H.size he dp co li op wd tl lc fo sf lf nf  hok) (tx_cb (n := 0) hts rfl rfl ⟨Nat.le_of_ble_eq_true rfl, Nat.le_of_ble_eq_true rfl⟩ (tx_code.of (hts _ mw_587)) (hts _ mw_11) (by decide +kernel) (hts _ mw_732)) (hts _ mw_585) (hts _ mw_586) ⟨tz_blind, sv_recv (q0 := 19) hts in_In hK hI kC_19 rfl, fun U hU hW => ⟨rfl, by rw [hU], by rw [hU]; exact hI.1, va_K.moved hW.alike hK, hst _ _ hI.2 U hU hW⟩⟩ rfl rfl hl.1 rfl (lv_room (Nat.le_of_ble_eq_true rfl)) d_En_doFirst_4 ⟨Nat.le_of_ble_eq_true rfl, Nat.le_of_ble_eq_true rfl⟩) hI.2 (fun q _ h => ga_sub hAC hA0 hI.2 q h) (ga_sub hAC hA0 hI.2) (fun v t H1 locs1 ht hWt hpost _ _ hS => ?_) (fun x t H1 locs1 ht hWt hpost _ _ hS => (hpost.2 x rfl).elim)
  rcases hpost.1 _ rfl with ⟨z20, hv, c21, c21_0, c21_1, hI1⟩ | ⟨z22, hv, c23, c23_0, c23_1, hI1⟩
  · cases hv
    have hI : sI (dC, dI) vcl cI cJ (gsC a he dp co li op wd tl lc fo sf lf nf) A s.heap H1 locs1 := ⟨by rw [← ht]; exact hI1, hS⟩
    clear hpost hI1 hS ht hWt
    revert hI; generalize H1 = H; generalize locs1 = locs; intro hI
    refine sn_if_eq (tgt := 56) hx hb d_En_doFirst_7 (by decide) (fun b24 => ?_) (fun b24 => ?_)
    · refine lv_aload_n hx hb d_En_doFirst_56 rfl (lv_at hl 0 rfl) ?_
      refine sv_getr (C := "StoryMachine$Engine") (T := T_En) (N := 15) hx hb hts in_En hown hK hI 5 kC_5 rfl 7 (by decide) (hts _ mw_268) rfl d_En_doFirst_57 ?_
      refine sv_gete (C := "StoryMachine$Instruction") (T := T_In) (N := 11) hx hb hts in_In hown hK hI 19 kC_19 rfl 5 (by decide) (hts _ mw_227) rfl d_En_doFirst_60 (fun z25 hz25 => ?_)
      have w26 : W p l e (headSpec tw_tbl rm_En_doFirst).room s m ([.ref (a 5), .int x1] : List Value).toArray below meth c H locs 0 0 Z (F0 m 237 ls []) := by
        subst hZ
        exact tz_ret (W.vret hx hb hr (fun t ht hW => ⟨⟨fun v9 hv9 => by cases hv9; exact (⟨he, dp, rfl, c21, by rw [ht]; exact hI.1⟩), fun x9 hx9 => (by cases hx9)⟩, hI.2.F ht⟩) hI.2.2.2 d_En_doFirst_237)
      by_cases b27 : z25.toInt = 0
      · refine sn_tin (v := 0) (off := 69) (tgt := 132) hx hb d_En_doFirst_63 b27 (by decide) (by decide) (by decide) (by decide) ?_
        refine lv_aload_n hx hb d_En_doFirst_132 rfl (lv_at hl 0 rfl) ?_
        refine lv_iload_n hx hb d_En_doFirst_133 rfl (lv_at hl 1 rfl) ?_
        refine sn_if_ne (tgt := 141) hx hb d_En_doFirst_134 (by decide) (fun b28 => ?_) (fun b28 => ?_)
        · refine sn_iconst hx hb d_En_doFirst_141 (by decide) (fun z29 hz29 => ?_)
          refine tz_call (A1 := ga (adC a) H.size) (tz_runV (C := "StoryMachine$Engine") (As := [.int z29]) (rest := []) ⟨hx, hb, hml, hown, hts⟩ (c_En_branch l hfl dC dI cI cJ a H.size he dp co li op wd tl lc fo sf lf nf z29 c21 (by omega) (by omega)) (tx_cb (n := 1) hts rfl rfl ⟨Nat.le_of_ble_eq_true rfl, Nat.le_of_ble_eq_true rfl⟩ (tx_code.of (hts _ mw_706)) (hts _ mw_6) (by decide +kernel) (hts _ mw_703)) (hts _ mw_705) (hts _ ms_En_branch) ⟨tz_blind, sv_recv (q0 := 5) hts in_En hK hI kC_5 rfl, fun U hU hW => ⟨rfl, by rw [hU], by rw [hU]; exact hI.1, va_K.moved hW.alike hK, hst _ _ hI.2 U hU hW⟩⟩ rfl rfl hl.1 rfl (lv_room (Nat.le_of_ble_eq_true rfl)) d_En_doFirst_142 ⟨Nat.le_of_ble_eq_true rfl, Nat.le_of_ble_eq_true rfl⟩) hI.2 (fun q _ h => ga_sub hAC hA0 hI.2 q h) (ga_sub hAC hA0 hI.2) (fun v t H1 locs1 ht hWt hpost _ _ hS => ?_) (fun x t H1 locs1 ht hWt hpost _ _ hS => ?_)
          · rcases hpost.1 _ rfl with ⟨t_he30, t_dp31, hv, c32, hI1⟩
            cases hv
            have hI : sI (dC, dI) vcl cI cJ (gsC a t_he30 t_dp31 co li op wd tl lc fo sf lf nf) A s.heap H1 locs1 := ⟨by rw [← ht]; exact hI1, hS⟩
            obtain ⟨⟨o33, o34⟩, ⟨o35, o36⟩, -, -, -, -, -, -, -, -, -, -⟩ := id c32
            clear hpost hI1 hS ht hWt
            revert hI; generalize H1 = H; generalize locs1 = locs; intro hI
            refine lv_goto (tgt := 237) hx hb d_En_doFirst_145 (by decide) ?_
            subst hZ
            exact tz_ret (W.vret hx hb hr (fun t ht hW => ⟨⟨fun v9 hv9 => by cases hv9; exact (⟨t_he30, t_dp31, rfl, c32, by rw [ht]; exact hI.1⟩), fun x9 hx9 => (by cases hx9)⟩, hI.2.F ht⟩) hI.2.2.2 d_En_doFirst_237)
          · rcases hpost.2 _ rfl with ⟨t_he37, t_dp38, hex, c39, c39_0, hI1⟩ | ⟨t_he40, t_dp41, hex, c42, c42_0, c42_1, hI1⟩
            · have hI : sI (dC, dI) vcl cI cJ (gsC a t_he37 t_dp38 co li op wd tl lc fo sf lf nf) A s.heap H1 locs1 := ⟨by rw [← ht]; exact hI1, hS⟩
              obtain ⟨⟨o43, o44⟩, ⟨o45, o46⟩, -, -, -, -, -, -, -, -, -, -⟩ := id c39
              refine tz_widen (k := 1) (n := 6) (Nat.le_of_ble_eq_true rfl) (Nat.le_of_ble_eq_true rfl) ?_
              subst hZ
              exact tz_leave (tx_noH B (hts _ mw_731) _) (fun t9 ht9 hW9 => ⟨⟨fun v9 hv9 => (by cases hv9), fun x9 hx9 => by cases hx9; exact (Or.inl ⟨t_he37, t_dp38, ta_exm hex ht ht9 hWt hW9, c39, by rw [ht9]; exact hI.1⟩)⟩, hI.2.F ht9⟩) hI.2.2.2 hlocks
            · have hI : sI (dC, dI) vcl cI cJ (gsC a t_he40 t_dp41 co li op wd tl lc fo sf lf nf) A s.heap H1 locs1 := ⟨by rw [← ht]; exact hI1, hS⟩
              obtain ⟨⟨o47, o48⟩, ⟨o49, o50⟩, -, -, -, -, -, -, -, -, -, -⟩ := id c42
              refine tz_widen (k := 1) (n := 6) (Nat.le_of_ble_eq_true rfl) (Nat.le_of_ble_eq_true rfl) ?_
              subst hZ
              exact tz_leave (tx_noH B (hts _ mw_731) _) (fun t9 ht9 hW9 => ⟨⟨fun v9 hv9 => (by cases hv9), fun x9 hx9 => by cases hx9; exact (Or.inr (⟨t_he40, t_dp41, ta_exm hex ht ht9 hWt hW9, c42, by rw [ht9]; exact hI.1⟩))⟩, hI.2.F ht9⟩) hI.2.2.2 hlocks
        · refine sn_iconst hx hb d_En_doFirst_137 (by decide) (fun z51 hz51 => ?_)
          refine lv_goto (tgt := 142) hx hb d_En_doFirst_138 (by decide) ?_
          refine tz_call (A1 := ga (adC a) H.size) (tz_runV (C := "StoryMachine$Engine") (As := [.int z51]) (rest := []) ⟨hx, hb, hml, hown, hts⟩ (c_En_branch l hfl dC dI cI cJ a H.size he dp co li op wd tl lc fo sf lf nf z51 c21 (by omega) (by omega)) (tx_cb (n := 1) hts rfl rfl ⟨Nat.le_of_ble_eq_true rfl, Nat.le_of_ble_eq_true rfl⟩ (tx_code.of (hts _ mw_706)) (hts _ mw_6) (by decide +kernel) (hts _ mw_703)) (hts _ mw_705) (hts _ ms_En_branch) ⟨tz_blind, sv_recv (q0 := 5) hts in_En hK hI kC_5 rfl, fun U hU hW => ⟨rfl, by rw [hU], by rw [hU]; exact hI.1, va_K.moved hW.alike hK, hst _ _ hI.2 U hU hW⟩⟩ rfl rfl hl.1 rfl (lv_room (Nat.le_of_ble_eq_true rfl)) d_En_doFirst_142 ⟨Nat.le_of_ble_eq_true rfl, Nat.le_of_ble_eq_true rfl⟩) hI.2 (fun q _ h => ga_sub hAC hA0 hI.2 q h) (ga_sub hAC hA0 hI.2) (fun v t H1 locs1 ht hWt hpost _ _ hS => ?_) (fun x t H1 locs1 ht hWt hpost _ _ hS => ?_)
          · rcases hpost.1 _ rfl with ⟨t_he52, t_dp53, hv, c54, hI1⟩
            cases hv
            have hI : sI (dC, dI) vcl cI cJ (gsC a t_he52 t_dp53 co li op wd tl lc fo sf lf nf) A s.heap H1 locs1 := ⟨by rw [← ht]; exact hI1, hS⟩
            obtain ⟨⟨o55, o56⟩, ⟨o57, o58⟩, -, -, -, -, -, -, -, -, -, -⟩ := id c54
            clear hpost hI1 hS ht hWt
            revert hI; generalize H1 = H; generalize locs1 = locs; intro hI
            refine lv_goto (tgt := 237) hx hb d_En_doFirst_145 (by decide) ?_
            subst hZ
            exact tz_ret (W.vret hx hb hr (fun t ht hW => ⟨⟨fun v9 hv9 => by cases hv9; exact (⟨t_he52, t_dp53, rfl, c54, by rw [ht]; exact hI.1⟩), fun x9 hx9 => (by cases hx9)⟩, hI.2.F ht⟩) hI.2.2.2 d_En_doFirst_237)
          · rcases hpost.2 _ rfl with ⟨t_he59, t_dp60, hex, c61, c61_0, hI1⟩ | ⟨t_he62, t_dp63, hex, c64, c64_0, c64_1, hI1⟩
            · have hI : sI (dC, dI) vcl cI cJ (gsC a t_he59 t_dp60 co li op wd tl lc fo sf lf nf) A s.heap H1 locs1 := ⟨by rw [← ht]; exact hI1, hS⟩
              obtain ⟨⟨o65, o66⟩, ⟨o67, o68⟩, -, -, -, -, -, -, -, -, -, -⟩ := id c61
              refine tz_widen (k := 1) (n := 6) (Nat.le_of_ble_eq_true rfl) (Nat.le_of_ble_eq_true rfl) ?_
              subst hZ
              exact tz_leave (tx_noH B (hts _ mw_731) _) (fun t9 ht9 hW9 => ⟨⟨fun v9 hv9 => (by cases hv9), fun x9 hx9 => by cases hx9; exact (Or.inl ⟨t_he59, t_dp60, ta_exm hex ht ht9 hWt hW9, c61, by rw [ht9]; exact hI.1⟩)⟩, hI.2.F ht9⟩) hI.2.2.2 hlocks
            · have hI : sI (dC, dI) vcl cI cJ (gsC a t_he62 t_dp63 co li op wd tl lc fo sf lf nf) A s.heap H1 locs1 := ⟨by rw [← ht]; exact hI1, hS⟩
              obtain ⟨⟨o69, o70⟩, ⟨o71, o72⟩, -, -, -, -, -, -, -, -, -, -⟩ := id c64
              refine tz_widen (k := 1) (n := 6) (Nat.le_of_ble_eq_true rfl) (Nat.le_of_ble_eq_true rfl) ?_
              subst hZ
              exact tz_leave (tx_noH B (hts _ mw_731) _) (fun t9 ht9 hW9 => ⟨⟨fun v9 hv9 => (by cases hv9), fun x9 hx9 => by cases hx9; exact (Or.inr (⟨t_he62, t_dp63, ta_exm hex ht ht9 hWt hW9, c64, by rw [ht9]; exact hI.1⟩))⟩, hI.2.F ht9⟩) hI.2.2.2 hlocks
      by_cases b73 : z25.toInt = 5
      · refine sn_tin (v := 5) (off := 85) (tgt := 148) hx hb d_En_doFirst_63 b73 (by decide) (by decide) (by decide) (by decide) ?_
        refine lv_aload_n hx hb d_En_doFirst_148 rfl (lv_at hl 0 rfl) ?_
        refine lv_iload_n hx hb d_En_doFirst_149 rfl (lv_at hl 1 rfl) ?_
        refine sn_iconst hx hb d_En_doFirst_150 (by decide) (fun z74 hz74 => ?_)
        refine tz_call (A1 := ga (adC a) H.size) (tz_runV (C := "StoryMachine$Engine") (As := [.int x1, .int z74]) (rest := []) ⟨hx, hb, hml, hown, hts⟩ (c_En_changedBy l hfl dC dI cI cJ a H.size he dp co li op wd tl lc fo sf lf nf x1 z74 c21 (by omega) (by omega) (by omega) (by omega)) (tx_cb (n := 2) hts rfl rfl ⟨Nat.le_of_ble_eq_true rfl, Nat.le_of_ble_eq_true rfl⟩ (tx_code.of (hts _ mw_769)) (hts _ mw_6) (by decide +kernel) (hts _ mw_766)) (hts _ mw_768) (hts _ ms_En_changedBy) ⟨tz_blind, sv_recv (q0 := 5) hts in_En hK hI kC_5 rfl, fun U hU hW => ⟨rfl, by rw [hU], by rw [hU]; exact hI.1, va_K.moved hW.alike hK, hst _ _ hI.2 U hU hW⟩⟩ rfl rfl hl.1 rfl (lv_room (Nat.le_of_ble_eq_true rfl)) d_En_doFirst_151 ⟨Nat.le_of_ble_eq_true rfl, Nat.le_of_ble_eq_true rfl⟩) hI.2 (fun q _ h => ga_sub hAC hA0 hI.2 q h) (ga_sub hAC hA0 hI.2) (fun v t H1 locs1 ht hWt hpost _ _ hS => ?_) (fun x t H1 locs1 ht hWt hpost _ _ hS => ?_)
        · rcases hpost.1 _ rfl with ⟨z75, t_he76, hv, c77, c77_0, c77_1, c77_2, hI1⟩
          cases hv
          have hI : sI (dC, dI) vcl cI cJ (gsC a t_he76 dp co li op wd tl lc fo sf lf nf) A s.heap H1 locs1 := ⟨by rw [← ht]; exact hI1, hS⟩
          obtain ⟨⟨o78, o79⟩, -, -, -, -, -, -, -, -, -, -, -⟩ := id c77
          clear hpost hI1 hS ht hWt
          revert hI; generalize H1 = H; generalize locs1 = locs; intro hI
          refine lv_pop hx hb d_En_doFirst_154 rfl ?_
          refine lv_goto (tgt := 237) hx hb d_En_doFirst_155 (by decide) ?_
          subst hZ
          exact tz_ret (W.vret hx hb hr (fun t ht hW => ⟨⟨fun v9 hv9 => by cases hv9; exact (⟨t_he76, dp, rfl, c77, by rw [ht]; exact hI.1⟩), fun x9 hx9 => (by cases hx9)⟩, hI.2.F ht⟩) hI.2.2.2 d_En_doFirst_237)
        · rcases hpost.2 _ rfl with ⟨t_he80, hex, c81, hI1⟩ | ⟨t_he82, hex, c83, c83_0, hI1⟩
          · have hI : sI (dC, dI) vcl cI cJ (gsC a t_he80 dp co li op wd tl lc fo sf lf nf) A s.heap H1 locs1 := ⟨by rw [← ht]; exact hI1, hS⟩
            obtain ⟨⟨o84, o85⟩, -, -, -, -, -, -, -, -, -, -, -⟩ := id c81
            refine tz_widen (k := 1) (n := 6) (Nat.le_of_ble_eq_true rfl) (Nat.le_of_ble_eq_true rfl) ?_
            subst hZ
            exact tz_leave (tx_noH B (hts _ mw_731) _) (fun t9 ht9 hW9 => ⟨⟨fun v9 hv9 => (by cases hv9), fun x9 hx9 => by cases hx9; exact (Or.inl ⟨t_he80, dp, ta_exm hex ht ht9 hWt hW9, c81, by rw [ht9]; exact hI.1⟩)⟩, hI.2.F ht9⟩) hI.2.2.2 hlocks
          · have hI : sI (dC, dI) vcl cI cJ (gsC a t_he82 dp co li op wd tl lc fo sf lf nf) A s.heap H1 locs1 := ⟨by rw [← ht]; exact hI1, hS⟩
            obtain ⟨⟨o86, o87⟩, -, -, -, -, -, -, -, -, -, -, -⟩ := id c83
            refine tz_widen (k := 1) (n := 6) (Nat.le_of_ble_eq_true rfl) (Nat.le_of_ble_eq_true rfl) ?_
            subst hZ
            exact tz_leave (tx_noH B (hts _ mw_731) _) (fun t9 ht9 hW9 => ⟨⟨fun v9 hv9 => (by cases hv9), fun x9 hx9 => by cases hx9; exact (Or.inr (⟨t_he82, dp, ta_exm hex ht ht9 hWt hW9, c83, by rw [ht9]; exact hI.1⟩))⟩, hI.2.F ht9⟩) hI.2.2.2 hlocks
      by_cases b88 : z25.toInt = 6
      · refine sn_tin (v := 6) (off := 95) (tgt := 158) hx hb d_En_doFirst_63 b88 (by decide) (by decide) (by decide) (by decide) ?_
        refine lv_aload_n hx hb d_En_doFirst_158 rfl (lv_at hl 0 rfl) ?_
        refine lv_iload_n hx hb d_En_doFirst_159 rfl (lv_at hl 1 rfl) ?_
        refine sn_iconst hx hb d_En_doFirst_160 (by decide) (fun z89 hz89 => ?_)
        refine tz_call (A1 := ga (adC a) H.size) (tz_runV (C := "StoryMachine$Engine") (As := [.int x1, .int z89]) (rest := []) ⟨hx, hb, hml, hown, hts⟩ (c_En_changedBy l hfl dC dI cI cJ a H.size he dp co li op wd tl lc fo sf lf nf x1 z89 c21 (by omega) (by omega) (by omega) (by omega)) (tx_cb (n := 2) hts rfl rfl ⟨Nat.le_of_ble_eq_true rfl, Nat.le_of_ble_eq_true rfl⟩ (tx_code.of (hts _ mw_769)) (hts _ mw_6) (by decide +kernel) (hts _ mw_766)) (hts _ mw_768) (hts _ ms_En_changedBy) ⟨tz_blind, sv_recv (q0 := 5) hts in_En hK hI kC_5 rfl, fun U hU hW => ⟨rfl, by rw [hU], by rw [hU]; exact hI.1, va_K.moved hW.alike hK, hst _ _ hI.2 U hU hW⟩⟩ rfl rfl hl.1 rfl (lv_room (Nat.le_of_ble_eq_true rfl)) d_En_doFirst_161 ⟨Nat.le_of_ble_eq_true rfl, Nat.le_of_ble_eq_true rfl⟩) hI.2 (fun q _ h => ga_sub hAC hA0 hI.2 q h) (ga_sub hAC hA0 hI.2) (fun v t H1 locs1 ht hWt hpost _ _ hS => ?_) (fun x t H1 locs1 ht hWt hpost _ _ hS => ?_)
        · rcases hpost.1 _ rfl with ⟨z90, t_he91, hv, c92, c92_0, c92_1, c92_2, hI1⟩
          cases hv
          have hI : sI (dC, dI) vcl cI cJ (gsC a t_he91 dp co li op wd tl lc fo sf lf nf) A s.heap H1 locs1 := ⟨by rw [← ht]; exact hI1, hS⟩
          obtain ⟨⟨o93, o94⟩, -, -, -, -, -, -, -, -, -, -, -⟩ := id c92
          clear hpost hI1 hS ht hWt
          revert hI; generalize H1 = H; generalize locs1 = locs; intro hI
          refine lv_pop hx hb d_En_doFirst_164 rfl ?_
          refine lv_goto (tgt := 237) hx hb d_En_doFirst_165 (by decide) ?_
          subst hZ
          exact tz_ret (W.vret hx hb hr (fun t ht hW => ⟨⟨fun v9 hv9 => by cases hv9; exact (⟨t_he91, dp, rfl, c92, by rw [ht]; exact hI.1⟩), fun x9 hx9 => (by cases hx9)⟩, hI.2.F ht⟩) hI.2.2.2 d_En_doFirst_237)
        · rcases hpost.2 _ rfl with ⟨t_he95, hex, c96, hI1⟩ | ⟨t_he97, hex, c98, c98_0, hI1⟩
          · have hI : sI (dC, dI) vcl cI cJ (gsC a t_he95 dp co li op wd tl lc fo sf lf nf) A s.heap H1 locs1 := ⟨by rw [← ht]; exact hI1, hS⟩
            obtain ⟨⟨o99, o100⟩, -, -, -, -, -, -, -, -, -, -, -⟩ := id c96
            refine tz_widen (k := 1) (n := 6) (Nat.le_of_ble_eq_true rfl) (Nat.le_of_ble_eq_true rfl) ?_
            subst hZ
            exact tz_leave (tx_noH B (hts _ mw_731) _) (fun t9 ht9 hW9 => ⟨⟨fun v9 hv9 => (by cases hv9), fun x9 hx9 => by cases hx9; exact (Or.inl ⟨t_he95, dp, ta_exm hex ht ht9 hWt hW9, c96, by rw [ht9]; exact hI.1⟩)⟩, hI.2.F ht9⟩) hI.2.2.2 hlocks
          · have hI : sI (dC, dI) vcl cI cJ (gsC a t_he97 dp co li op wd tl lc fo sf lf nf) A s.heap H1 locs1 := ⟨by rw [← ht]; exact hI1, hS⟩
            obtain ⟨⟨o101, o102⟩, -, -, -, -, -, -, -, -, -, -, -⟩ := id c98
            refine tz_widen (k := 1) (n := 6) (Nat.le_of_ble_eq_true rfl) (Nat.le_of_ble_eq_true rfl) ?_
            subst hZ
            exact tz_leave (tx_noH B (hts _ mw_731) _) (fun t9 ht9 hW9 => ⟨⟨fun v9 hv9 => (by cases hv9), fun x9 hx9 => by cases hx9; exact (Or.inr (⟨t_he97, dp, ta_exm hex ht ht9 hWt hW9, c98, by rw [ht9]; exact hI.1⟩))⟩, hI.2.F ht9⟩) hI.2.2.2 hlocks
      by_cases b103 : z25.toInt = 7
      · refine sn_tin (v := 7) (off := 105) (tgt := 168) hx hb d_En_doFirst_63 b103 (by decide) (by decide) (by decide) (by decide) ?_
        refine lv_aload_n hx hb d_En_doFirst_168 rfl (lv_at hl 0 rfl) ?_
        refine sv_getr (C := "StoryMachine$Engine") (T := T_En) (N := 15) hx hb hts in_En hown hK hI 5 kC_5 rfl 3 (by decide) (hts _ mw_264) rfl d_En_doFirst_169 ?_
        refine lv_iload_n hx hb d_En_doFirst_172 rfl (lv_at hl 1 rfl) ?_
        refine tz_call (A1 := ga (adC a) H.size) (tz_runV (C := "StoryMachine$Printer") (As := [.int x1]) (rest := []) ⟨hx, hb, hml, hown, hts⟩ (c_Pr_putText l hfl dC dI cI cJ a H.size he dp co li op wd tl lc fo sf lf nf x1 c21) (tx_cb (n := 1) hts rfl rfl ⟨Nat.le_of_ble_eq_true rfl, Nat.le_of_ble_eq_true rfl⟩ (tx_code.of (hts _ mw_644)) (hts _ mw_5) (by decide +kernel) (hts _ mw_641)) (hts _ mw_642) (hts _ mw_643) ⟨tz_blind, sv_recv (q0 := 4) hts in_Pr hK hI kC_4 rfl, fun U hU hW => ⟨rfl, by rw [hU], by rw [hU]; exact hI.1, va_K.moved hW.alike hK, hst _ _ hI.2 U hU hW⟩⟩ rfl rfl hl.1 rfl (lv_room (Nat.le_of_ble_eq_true rfl)) d_En_doFirst_173 ⟨Nat.le_of_ble_eq_true rfl, Nat.le_of_ble_eq_true rfl⟩) hI.2 (fun q _ h => ga_sub hAC hA0 hI.2 q h) (ga_sub hAC hA0 hI.2) (fun v t H1 locs1 ht hWt hpost _ _ hS => ?_) (fun x t H1 locs1 ht hWt hpost _ _ hS => ?_)
        · rcases hpost.1 _ rfl with ⟨z104, hv, c105, c105_0, c105_1, hI1⟩
          cases hv
          have hI : sI (dC, dI) vcl cI cJ (gsC a he dp co li op wd tl lc fo sf lf nf) A s.heap H1 locs1 := ⟨by rw [← ht]; exact hI1, hS⟩
          clear hpost hI1 hS ht hWt
          revert hI; generalize H1 = H; generalize locs1 = locs; intro hI
          refine lv_pop hx hb d_En_doFirst_176 rfl ?_
          refine lv_goto (tgt := 237) hx hb d_En_doFirst_177 (by decide) ?_
          subst hZ
          exact tz_ret (W.vret hx hb hr (fun t ht hW => ⟨⟨fun v9 hv9 => by cases hv9; exact (⟨he, dp, rfl, c105, by rw [ht]; exact hI.1⟩), fun x9 hx9 => (by cases hx9)⟩, hI.2.F ht⟩) hI.2.2.2 d_En_doFirst_237)
        · rcases hpost.2 _ rfl with ⟨hex, c106, hI1⟩
          have hI : sI (dC, dI) vcl cI cJ (gsC a he dp co li op wd tl lc fo sf lf nf) A s.heap H1 locs1 := ⟨by rw [← ht]; exact hI1, hS⟩
          refine tz_widen (k := 1) (n := 6) (Nat.le_of_ble_eq_true rfl) (Nat.le_of_ble_eq_true rfl) ?_
          subst hZ
          exact tz_leave (tx_noH B (hts _ mw_731) _) (fun t9 ht9 hW9 => ⟨⟨fun v9 hv9 => (by cases hv9), fun x9 hx9 => by cases hx9; exact (Or.inl ⟨he, dp, ta_exm hex ht ht9 hWt hW9, c106, by rw [ht9]; exact hI.1⟩)⟩, hI.2.F ht9⟩) hI.2.2.2 hlocks
      by_cases b107 : z25.toInt = 9
      · refine sn_tin (v := 9) (off := 117) (tgt := 180) hx hb d_En_doFirst_63 b107 (by decide) (by decide) (by decide) (by decide) ?_
        refine lv_aload_n hx hb d_En_doFirst_180 rfl (lv_at hl 0 rfl) ?_
        refine sv_getr (C := "StoryMachine$Engine") (T := T_En) (N := 15) hx hb hts in_En hown hK hI 5 kC_5 rfl 5 (by decide) (hts _ mw_266) rfl d_En_doFirst_181 ?_
        refine lv_iload_n hx hb d_En_doFirst_184 rfl (lv_at hl 1 rfl) ?_
        refine tz_call (A1 := ga (adC a) H.size) (tz_runV (C := "StoryMachine$Tree") (As := [.int x1]) (rest := []) ⟨hx, hb, hml, hown, hts⟩ (c_Tr_takeFromParent l hfl dC dI cI cJ a H.size he dp co li op wd tl lc fo sf lf nf x1 c21) (tx_cb (n := 1) hts rfl rfl ⟨Nat.le_of_ble_eq_true rfl, Nat.le_of_ble_eq_true rfl⟩ (tx_code.of (hts _ mw_773)) (hts _ mw_9) (by decide +kernel) (hts _ mw_770)) (hts _ mw_771) (hts _ mw_772) ⟨tz_blind, sv_recv (q0 := 17) hts in_Tr hK hI kC_17 rfl, fun U hU hW => ⟨rfl, by rw [hU], by rw [hU]; exact hI.1, va_K.moved hW.alike hK, hst _ _ hI.2 U hU hW⟩⟩ rfl rfl hl.1 rfl (lv_room (Nat.le_of_ble_eq_true rfl)) d_En_doFirst_185 ⟨Nat.le_of_ble_eq_true rfl, Nat.le_of_ble_eq_true rfl⟩) hI.2 (fun q _ h => ga_sub hAC hA0 hI.2 q h) (ga_sub hAC hA0 hI.2) (fun v t H1 locs1 ht hWt hpost _ _ hS => ?_) (fun x t H1 locs1 ht hWt hpost _ _ hS => ?_)
        · rcases hpost.1 _ rfl with ⟨hv, c108, c108_0, c108_1, hI1⟩
          cases hv
          have hI : sI (dC, dI) vcl cI cJ (gsC a he dp co li op wd tl lc fo sf lf nf) A s.heap H1 locs1 := ⟨by rw [← ht]; exact hI1, hS⟩
          clear hpost hI1 hS ht hWt
          revert hI; generalize H1 = H; generalize locs1 = locs; intro hI
          refine lv_goto (tgt := 237) hx hb d_En_doFirst_188 (by decide) ?_
          subst hZ
          exact tz_ret (W.vret hx hb hr (fun t ht hW => ⟨⟨fun v9 hv9 => by cases hv9; exact (⟨he, dp, rfl, c108, by rw [ht]; exact hI.1⟩), fun x9 hx9 => (by cases hx9)⟩, hI.2.F ht⟩) hI.2.2.2 d_En_doFirst_237)
        · rcases hpost.2 _ rfl with ⟨hex, c109, hI1⟩
          have hI : sI (dC, dI) vcl cI cJ (gsC a he dp co li op wd tl lc fo sf lf nf) A s.heap H1 locs1 := ⟨by rw [← ht]; exact hI1, hS⟩
          refine tz_widen (k := 1) (n := 6) (Nat.le_of_ble_eq_true rfl) (Nat.le_of_ble_eq_true rfl) ?_
          subst hZ
          exact tz_leave (tx_noH B (hts _ mw_731) _) (fun t9 ht9 hW9 => ⟨⟨fun v9 hv9 => (by cases hv9), fun x9 hx9 => by cases hx9; exact (Or.inl ⟨he, dp, ta_exm hex ht ht9 hWt hW9, c109, by rw [ht9]; exact hI.1⟩)⟩, hI.2.F ht9⟩) hI.2.2.2 hlocks
      by_cases b110 : z25.toInt = 10
      · refine sn_tin (v := 10) (off := 128) (tgt := 191) hx hb d_En_doFirst_63 b110 (by decide) (by decide) (by decide) (by decide) ?_
        refine lv_aload_n hx hb d_En_doFirst_191 rfl (lv_at hl 0 rfl) ?_
        refine lv_iload_n hx hb d_En_doFirst_192 rfl (lv_at hl 1 rfl) ?_
        refine tz_call (A1 := ga (adC a) H.size) (tz_runV (C := "StoryMachine$Engine") (As := [.int x1]) (rest := []) ⟨hx, hb, hml, hown, hts⟩ (c_En_putName l hfl dC dI cI cJ a H.size he dp co li op wd tl lc fo sf lf nf x1 c21 (by omega) (by omega)) (tx_cb (n := 1) hts rfl rfl ⟨Nat.le_of_ble_eq_true rfl, Nat.le_of_ble_eq_true rfl⟩ (tx_code.of (hts _ mw_785)) (hts _ mw_6) (by decide +kernel) (hts _ mw_782)) (hts _ mw_784) (hts _ ms_En_putName) ⟨tz_blind, sv_recv (q0 := 5) hts in_En hK hI kC_5 rfl, fun U hU hW => ⟨rfl, by rw [hU], by rw [hU]; exact hI.1, va_K.moved hW.alike hK, hst _ _ hI.2 U hU hW⟩⟩ rfl rfl hl.1 rfl (lv_room (Nat.le_of_ble_eq_true rfl)) d_En_doFirst_193 ⟨Nat.le_of_ble_eq_true rfl, Nat.le_of_ble_eq_true rfl⟩) hI.2 (fun q _ h => ga_sub hAC hA0 hI.2 q h) (ga_sub hAC hA0 hI.2) (fun v t H1 locs1 ht hWt hpost _ _ hS => ?_) (fun x t H1 locs1 ht hWt hpost _ _ hS => ?_)
        · rcases hpost.1 _ rfl with ⟨hv, c111, c111_0, c111_1, hI1⟩
          cases hv
          have hI : sI (dC, dI) vcl cI cJ (gsC a he dp co li op wd tl lc fo sf lf nf) A s.heap H1 locs1 := ⟨by rw [← ht]; exact hI1, hS⟩
          clear hpost hI1 hS ht hWt
          revert hI; generalize H1 = H; generalize locs1 = locs; intro hI
          refine lv_goto (tgt := 237) hx hb d_En_doFirst_196 (by decide) ?_
          subst hZ
          exact tz_ret (W.vret hx hb hr (fun t ht hW => ⟨⟨fun v9 hv9 => by cases hv9; exact (⟨he, dp, rfl, c111, by rw [ht]; exact hI.1⟩), fun x9 hx9 => (by cases hx9)⟩, hI.2.F ht⟩) hI.2.2.2 d_En_doFirst_237)
        · rcases hpost.2 _ rfl with ⟨hex, c112, hI1⟩
          have hI : sI (dC, dI) vcl cI cJ (gsC a he dp co li op wd tl lc fo sf lf nf) A s.heap H1 locs1 := ⟨by rw [← ht]; exact hI1, hS⟩
          refine tz_widen (k := 1) (n := 6) (Nat.le_of_ble_eq_true rfl) (Nat.le_of_ble_eq_true rfl) ?_
          subst hZ
          exact tz_leave (tx_noH B (hts _ mw_731) _) (fun t9 ht9 hW9 => ⟨⟨fun v9 hv9 => (by cases hv9), fun x9 hx9 => by cases hx9; exact (Or.inl ⟨he, dp, ta_exm hex ht ht9 hWt hW9, c112, by rw [ht9]; exact hI.1⟩)⟩, hI.2.F ht9⟩) hI.2.2.2 hlocks
      by_cases b113 : z25.toInt = 11
      · refine sn_tin (v := 11) (off := 136) (tgt := 199) hx hb d_En_doFirst_63 b113 (by decide) (by decide) (by decide) (by decide) ?_
        refine lv_aload_n hx hb d_En_doFirst_199 rfl (lv_at hl 0 rfl) ?_
        refine lv_iload_n hx hb d_En_doFirst_200 rfl (lv_at hl 1 rfl) ?_
        refine tz_call (A1 := ga (adC a) H.size) (tz_runV (C := "StoryMachine$Engine") (As := [.int x1]) (rest := []) ⟨hx, hb, hml, hown, hts⟩ (c_En_returnWith l hfl dC dI cI cJ a H.size he dp co li op wd tl lc fo sf lf nf x1 c21) (tx_cb (n := 1) hts rfl rfl ⟨Nat.le_of_ble_eq_true rfl, Nat.le_of_ble_eq_true rfl⟩ (tx_code.of (hts _ mw_603)) (hts _ mw_6) (by decide +kernel) (hts _ mw_600)) (hts _ mw_602) (hts _ ms_En_returnWith) ⟨tz_blind, sv_recv (q0 := 5) hts in_En hK hI kC_5 rfl, fun U hU hW => ⟨rfl, by rw [hU], by rw [hU]; exact hI.1, va_K.moved hW.alike hK, hst _ _ hI.2 U hU hW⟩⟩ rfl rfl hl.1 rfl (lv_room (Nat.le_of_ble_eq_true rfl)) d_En_doFirst_201 ⟨Nat.le_of_ble_eq_true rfl, Nat.le_of_ble_eq_true rfl⟩) hI.2 (fun q _ h => ga_sub hAC hA0 hI.2 q h) (ga_sub hAC hA0 hI.2) (fun v t H1 locs1 ht hWt hpost _ _ hS => ?_) (fun x t H1 locs1 ht hWt hpost _ _ hS => ?_)
        · rcases hpost.1 _ rfl with ⟨t_he114, t_dp115, hv, c116, c116_0, c116_1, hI1⟩
          cases hv
          have hI : sI (dC, dI) vcl cI cJ (gsC a t_he114 t_dp115 co li op wd tl lc fo sf lf nf) A s.heap H1 locs1 := ⟨by rw [← ht]; exact hI1, hS⟩
          obtain ⟨⟨o117, o118⟩, ⟨o119, o120⟩, -, -, -, -, -, -, -, -, -, -⟩ := id c116
          clear hpost hI1 hS ht hWt
          revert hI; generalize H1 = H; generalize locs1 = locs; intro hI
          refine lv_goto (tgt := 237) hx hb d_En_doFirst_204 (by decide) ?_
          subst hZ
          exact tz_ret (W.vret hx hb hr (fun t ht hW => ⟨⟨fun v9 hv9 => by cases hv9; exact (⟨t_he114, t_dp115, rfl, c116, by rw [ht]; exact hI.1⟩), fun x9 hx9 => (by cases hx9)⟩, hI.2.F ht⟩) hI.2.2.2 d_En_doFirst_237)
        · rcases hpost.2 _ rfl with ⟨t_he121, t_dp122, hex, c123, c123_0, hI1⟩ | ⟨t_he124, t_dp125, hex, c126, c126_0, c126_1, hI1⟩
          · have hI : sI (dC, dI) vcl cI cJ (gsC a t_he121 t_dp122 co li op wd tl lc fo sf lf nf) A s.heap H1 locs1 := ⟨by rw [← ht]; exact hI1, hS⟩
            obtain ⟨⟨o127, o128⟩, ⟨o129, o130⟩, -, -, -, -, -, -, -, -, -, -⟩ := id c123
            refine tz_widen (k := 1) (n := 6) (Nat.le_of_ble_eq_true rfl) (Nat.le_of_ble_eq_true rfl) ?_
            subst hZ
            exact tz_leave (tx_noH B (hts _ mw_731) _) (fun t9 ht9 hW9 => ⟨⟨fun v9 hv9 => (by cases hv9), fun x9 hx9 => by cases hx9; exact (Or.inl ⟨t_he121, t_dp122, ta_exm hex ht ht9 hWt hW9, c123, by rw [ht9]; exact hI.1⟩)⟩, hI.2.F ht9⟩) hI.2.2.2 hlocks
          · have hI : sI (dC, dI) vcl cI cJ (gsC a t_he124 t_dp125 co li op wd tl lc fo sf lf nf) A s.heap H1 locs1 := ⟨by rw [← ht]; exact hI1, hS⟩
            obtain ⟨⟨o131, o132⟩, ⟨o133, o134⟩, -, -, -, -, -, -, -, -, -, -⟩ := id c126
            refine tz_widen (k := 1) (n := 6) (Nat.le_of_ble_eq_true rfl) (Nat.le_of_ble_eq_true rfl) ?_
            subst hZ
            exact tz_leave (tx_noH B (hts _ mw_731) _) (fun t9 ht9 hW9 => ⟨⟨fun v9 hv9 => (by cases hv9), fun x9 hx9 => by cases hx9; exact (Or.inr (⟨t_he124, t_dp125, ta_exm hex ht ht9 hWt hW9, c126, by rw [ht9]; exact hI.1⟩))⟩, hI.2.F ht9⟩) hI.2.2.2 hlocks
      by_cases b135 : z25.toInt = 12
      · refine sn_tin (v := 12) (off := 144) (tgt := 207) hx hb d_En_doFirst_63 b135 (by decide) (by decide) (by decide) (by decide) ?_
        refine lv_aload_n hx hb d_En_doFirst_207 rfl (lv_at hl 0 rfl) ?_
        refine lv_dup hx hb d_En_doFirst_208 rfl ?_
        refine sv_get (C := "StoryMachine$Engine") (T := T_En) (N := 15) hx hb hts in_En hown hK hI 5 kC_5 rfl 13 (by decide) (hts _ mw_277) rfl d_En_doFirst_209 (fun z136 hz136a hz136b => ?_)
        refine lv_iload_n hx hb d_En_doFirst_212 rfl (lv_at hl 1 rfl) ?_
        refine sn_i2s hx hb d_En_doFirst_213 (fun z137 hz137a hz137b hz137c => ?_)
        refine sn_iconst hx hb d_En_doFirst_214 (by decide) (fun z138 hz138 => ?_)
        refine sn_isub hx hb d_En_doFirst_215 (by omega) (by omega) (fun z139 hz139 => ?_)
        refine sn_iaddT hx hb d_En_doFirst_216 (fun z140 hz140a hz140b => ?_)
        refine sv_put (C := "StoryMachine$Engine") (T := T_En) (N := 15) (ty := .int) hx hb hts in_En t_En tk_En nm_En hown hK (sh_in adC_map hAC) hI 5 kC_5 rfl 13 (by decide) (hts _ mw_277) rfl (by decide +kernel) rfl rfl (Nat.le_of_ble_eq_true rfl) (by omega) (by omega) pC_5_13 d_En_doFirst_217 (fun H locs hI => ?_)
        refine lv_goto (tgt := 237) hx hb d_En_doFirst_220 (by decide) ?_
        subst hZ
        exact tz_ret (W.vret hx hb hr (fun t ht hW => ⟨⟨fun v9 hv9 => by cases hv9; exact (⟨he, dp, rfl, c21, by rw [ht]; exact hI.1⟩), fun x9 hx9 => (by cases hx9)⟩, hI.2.F ht⟩) hI.2.2.2 d_En_doFirst_237)
      by_cases b141 : z25.toInt = 13
      · refine sn_tin (v := 13) (off := 160) (tgt := 223) hx hb d_En_doFirst_63 b141 (by decide) (by decide) (by decide) (by decide) ?_
        refine lv_aload_n hx hb d_En_doFirst_223 rfl (lv_at hl 0 rfl) ?_
        refine sv_getr (C := "StoryMachine$Engine") (T := T_En) (N := 15) hx hb hts in_En hown hK hI 5 kC_5 rfl 3 (by decide) (hts _ mw_264) rfl d_En_doFirst_224 ?_
        refine sn_iconst hx hb d_En_doFirst_227 (by decide) (fun z142 hz142 => ?_)
        refine lv_iload_n hx hb d_En_doFirst_228 rfl (lv_at hl 1 rfl) ?_
        refine sn_imulL (k := 2) hx hb d_En_doFirst_229 (by omega) (by omega) (by omega) (fun z143 hz143 => ?_)
        refine tz_call (A1 := ga (adC a) H.size) (tz_runV (C := "StoryMachine$Printer") (As := [.int z143]) (rest := []) ⟨hx, hb, hml, hown, hts⟩ (c_Pr_putText l hfl dC dI cI cJ a H.size he dp co li op wd tl lc fo sf lf nf z143 c21) (tx_cb (n := 1) hts rfl rfl ⟨Nat.le_of_ble_eq_true rfl, Nat.le_of_ble_eq_true rfl⟩ (tx_code.of (hts _ mw_644)) (hts _ mw_5) (by decide +kernel) (hts _ mw_641)) (hts _ mw_642) (hts _ mw_643) ⟨tz_blind, sv_recv (q0 := 4) hts in_Pr hK hI kC_4 rfl, fun U hU hW => ⟨rfl, by rw [hU], by rw [hU]; exact hI.1, va_K.moved hW.alike hK, hst _ _ hI.2 U hU hW⟩⟩ rfl rfl hl.1 rfl (lv_room (Nat.le_of_ble_eq_true rfl)) d_En_doFirst_230 ⟨Nat.le_of_ble_eq_true rfl, Nat.le_of_ble_eq_true rfl⟩) hI.2 (fun q _ h => ga_sub hAC hA0 hI.2 q h) (ga_sub hAC hA0 hI.2) (fun v t H1 locs1 ht hWt hpost _ _ hS => ?_) (fun x t H1 locs1 ht hWt hpost _ _ hS => ?_)
        · rcases hpost.1 _ rfl with ⟨z144, hv, c145, c145_0, c145_1, hI1⟩
          cases hv
          have hI : sI (dC, dI) vcl cI cJ (gsC a he dp co li op wd tl lc fo sf lf nf) A s.heap H1 locs1 := ⟨by rw [← ht]; exact hI1, hS⟩
          clear hpost hI1 hS ht hWt
          revert hI; generalize H1 = H; generalize locs1 = locs; intro hI
          refine lv_pop hx hb d_En_doFirst_233 rfl ?_
          refine lv_goto (tgt := 237) hx hb d_En_doFirst_234 (by decide) ?_
          subst hZ
          exact tz_ret (W.vret hx hb hr (fun t ht hW => ⟨⟨fun v9 hv9 => by cases hv9; exact (⟨he, dp, rfl, c145, by rw [ht]; exact hI.1⟩), fun x9 hx9 => (by cases hx9)⟩, hI.2.F ht⟩) hI.2.2.2 d_En_doFirst_237)
        · rcases hpost.2 _ rfl with ⟨hex, c146, hI1⟩
          have hI : sI (dC, dI) vcl cI cJ (gsC a he dp co li op wd tl lc fo sf lf nf) A s.heap H1 locs1 := ⟨by rw [← ht]; exact hI1, hS⟩
          refine tz_widen (k := 1) (n := 6) (Nat.le_of_ble_eq_true rfl) (Nat.le_of_ble_eq_true rfl) ?_
          subst hZ
          exact tz_leave (tx_noH B (hts _ mw_731) _) (fun t9 ht9 hW9 => ⟨⟨fun v9 hv9 => (by cases hv9), fun x9 hx9 => by cases hx9; exact (Or.inl ⟨he, dp, ta_exm hex ht ht9 hWt hW9, c146, by rw [ht9]; exact hI.1⟩)⟩, hI.2.F ht9⟩) hI.2.2.2 hlocks
      by_cases b147 : z25.toInt = 1
      · exact sn_tin (v := 1) (off := 174) (tgt := 237) hx hb d_En_doFirst_63 b147 (by decide) (by decide) (by decide) (by decide) w26
      by_cases b148 : z25.toInt = 2
      · exact sn_tin (v := 2) (off := 174) (tgt := 237) hx hb d_En_doFirst_63 b148 (by decide) (by decide) (by decide) (by decide) w26
      by_cases b149 : z25.toInt = 3
      · exact sn_tin (v := 3) (off := 174) (tgt := 237) hx hb d_En_doFirst_63 b149 (by decide) (by decide) (by decide) (by decide) w26
      by_cases b150 : z25.toInt = 4
      · exact sn_tin (v := 4) (off := 174) (tgt := 237) hx hb d_En_doFirst_63 b150 (by decide) (by decide) (by decide) (by decide) w26
      by_cases b151 : z25.toInt = 8
      · exact sn_tin (v := 8) (off := 174) (tgt := 237) hx hb d_En_doFirst_63 b151 (by decide) (by decide) (by decide) (by decide) w26
      exact lv_tableOut (tgt := 237) hx hb d_En_doFirst_63 (by omega) (by decide) w26
    · omega
  · cases hv
    have hI : sI (dC, dI) vcl cI cJ (gsC a he dp co li op wd tl lc fo sf lf nf) A s.heap H1 locs1 := ⟨by rw [← ht]; exact hI1, hS⟩
    clear hpost hI1 hS ht hWt
    revert hI; generalize H1 = H; generalize locs1 = locs; intro hI
    refine sn_if_eq (tgt := 56) hx hb d_En_doFirst_7 (by decide) (fun b152 => ?_) (fun b152 => ?_)
    · omega
    · refine lv_aload_n hx hb d_En_doFirst_10 rfl (lv_at hl 0 rfl) ?_
      refine lv_iload_n hx hb d_En_doFirst_11 rfl (lv_at hl 1 rfl) ?_
      refine tz_call (A1 := ga (adC a) H.size) (tz_runV (C := "StoryMachine$Engine") (As := [.int x1]) (rest := []) ⟨hx, hb, hml, hown, hts⟩ (c_En_firstValue l hfl dC dI cI cJ a H.size he dp co li op wd tl lc fo sf lf nf x1 c23 (by omega) (by omega)) (tx_cb (n := 1) hts rfl rfl ⟨Nat.le_of_ble_eq_true rfl, Nat.le_of_ble_eq_true rfl⟩ (tx_code.of (hts _ mw_736)) (hts _ mw_6) (by decide +kernel) (hts _ mw_733)) (hts _ mw_735) (hts _ ms_En_firstValue) ⟨tz_blind, sv_recv (q0 := 5) hts in_En hK hI kC_5 rfl, fun U hU hW => ⟨rfl, by rw [hU], by rw [hU]; exact hI.1, va_K.moved hW.alike hK, hst _ _ hI.2 U hU hW⟩⟩ rfl rfl hl.1 rfl (lv_room (Nat.le_of_ble_eq_true rfl)) d_En_doFirst_12 ⟨Nat.le_of_ble_eq_true rfl, Nat.le_of_ble_eq_true rfl⟩) hI.2 (fun q _ h => ga_sub hAC hA0 hI.2 q h) (ga_sub hAC hA0 hI.2) (fun v t H1 locs1 ht hWt hpost _ _ hS => ?_) (fun x t H1 locs1 ht hWt hpost _ _ hS => ?_)
      · rcases hpost.1 _ rfl with ⟨z153, t_he154, hv, c155, c155_0, c155_1, hI1⟩
        cases hv
        have hI : sI (dC, dI) vcl cI cJ (gsC a t_he154 dp co li op wd tl lc fo sf lf nf) A s.heap H1 locs1 := ⟨by rw [← ht]; exact hI1, hS⟩
        obtain ⟨⟨o156, o157⟩, -, -, -, -, -, -, -, -, -, -, -⟩ := id c155
        clear hpost hI1 hS ht hWt
        revert hI; generalize H1 = H; generalize locs1 = locs; intro hI
        refine lv_istore_n (lv' := [(2, .int z153), (0, .ref (a 5)), (1, .int x1)]) hx hb d_En_doFirst_15 rfl hl (by decide) rfl (fun ls hl => ?_)
        refine lv_aload_n hx hb d_En_doFirst_16 rfl (lv_at hl 1 rfl) ?_
        refine sv_getr (C := "StoryMachine$Engine") (T := T_En) (N := 15) hx hb hts in_En hown hK hI 5 kC_5 rfl 4 (by decide) (hts _ mw_265) rfl d_En_doFirst_17 ?_
        refine lv_aload_n hx hb d_En_doFirst_20 rfl (lv_at hl 1 rfl) ?_
        refine sv_getr (C := "StoryMachine$Engine") (T := T_En) (N := 15) hx hb hts in_En hown hK hI 5 kC_5 rfl 7 (by decide) (hts _ mw_268) rfl d_En_doFirst_21 ?_
        refine sv_get (C := "StoryMachine$Instruction") (T := T_In) (N := 11) hx hb hts in_In hown hK hI 19 kC_19 rfl 7 (by decide) (hts _ mw_232) rfl d_En_doFirst_24 (fun z158 hz158a hz158b => ?_)
        refine lv_iload_n hx hb d_En_doFirst_27 rfl (lv_at hl 0 rfl) ?_
        refine sn_iconst hx hb d_En_doFirst_28 (by decide) (fun z159 hz159 => ?_)
        refine tz_call (A1 := ga (adC a) H.size) (tz_runV (C := "StoryMachine$Variables") (As := [.int z158, .int z153, .int z159]) (rest := []) ⟨hx, hb, hml, hown, hts⟩ (c_Va_write l hfl dC dI cI cJ a H.size t_he154 dp co li op wd tl lc fo sf lf nf z158 z153 z159 c155) (tx_cb (n := 3) hts rfl rfl ⟨Nat.le_of_ble_eq_true rfl, Nat.le_of_ble_eq_true rfl⟩ (tx_code.of (hts _ mw_619)) (hts _ mw_8) (by decide +kernel) (hts _ mw_616)) (hts _ mw_617) (hts _ mw_618) ⟨tz_blind, sv_recv (q0 := 16) hts in_Va hK hI kC_16 rfl, fun U hU hW => ⟨rfl, by rw [hU], by rw [hU]; exact hI.1, va_K.moved hW.alike hK, hst _ _ hI.2 U hU hW⟩⟩ rfl rfl hl.1 rfl (lv_room (Nat.le_of_ble_eq_true rfl)) d_En_doFirst_29 ⟨Nat.le_of_ble_eq_true rfl, Nat.le_of_ble_eq_true rfl⟩) hI.2 (fun q _ h => ga_sub hAC hA0 hI.2 q h) (ga_sub hAC hA0 hI.2) (fun v t H1 locs1 ht hWt hpost _ _ hS => ?_) (fun x t H1 locs1 ht hWt hpost _ _ hS => ?_)
        · rcases hpost.1 _ rfl with ⟨t_he160, hv, c161, c161_0, c161_1, hI1⟩
          cases hv
          have hI : sI (dC, dI) vcl cI cJ (gsC a t_he160 dp co li op wd tl lc fo sf lf nf) A s.heap H1 locs1 := ⟨by rw [← ht]; exact hI1, hS⟩
          obtain ⟨⟨o162, o163⟩, -, -, -, -, -, -, -, -, -, -, -⟩ := id c161
          clear hpost hI1 hS ht hWt
          revert hI; generalize H1 = H; generalize locs1 = locs; intro hI
          refine lv_aload_n hx hb d_En_doFirst_32 rfl (lv_at hl 1 rfl) ?_
          refine sv_getr (C := "StoryMachine$Engine") (T := T_En) (N := 15) hx hb hts in_En hown hK hI 5 kC_5 rfl 7 (by decide) (hts _ mw_268) rfl d_En_doFirst_33 ?_
          refine tz_call (A1 := ga (adC a) H.size) (tz_runV (C := "StoryMachine$Instruction") (As := []) (rest := []) ⟨hx, hb, hml, hown, hts⟩ (c_In_branches l hfl dC dI cI cJ a H.size t_he160 dp co li op wd tl lc fo sf lf nf  c161) (tx_cb (n := 0) hts rfl rfl ⟨Nat.le_of_ble_eq_true rfl, Nat.le_of_ble_eq_true rfl⟩ (tx_code.of (hts _ mw_591)) (hts _ mw_11) (by decide +kernel) (hts _ mw_765)) (hts _ mw_589) (hts _ mw_590) ⟨tz_blind, sv_recv (q0 := 19) hts in_In hK hI kC_19 rfl, fun U hU hW => ⟨rfl, by rw [hU], by rw [hU]; exact hI.1, va_K.moved hW.alike hK, hst _ _ hI.2 U hU hW⟩⟩ rfl rfl hl.1 rfl (lv_room (Nat.le_of_ble_eq_true rfl)) d_En_doFirst_36 ⟨Nat.le_of_ble_eq_true rfl, Nat.le_of_ble_eq_true rfl⟩) hI.2 (fun q _ h => ga_sub hAC hA0 hI.2 q h) (ga_sub hAC hA0 hI.2) (fun v t H1 locs1 ht hWt hpost _ _ hS => ?_) (fun x t H1 locs1 ht hWt hpost _ _ hS => (hpost.2 x rfl).elim)
          rcases hpost.1 _ rfl with ⟨z164, hv, c165, c165_0, c165_1, hI1⟩ | ⟨z166, hv, c167, c167_0, c167_1, hI1⟩
          · cases hv
            have hI : sI (dC, dI) vcl cI cJ (gsC a t_he160 dp co li op wd tl lc fo sf lf nf) A s.heap H1 locs1 := ⟨by rw [← ht]; exact hI1, hS⟩
            clear hpost hI1 hS ht hWt
            revert hI; generalize H1 = H; generalize locs1 = locs; intro hI
            refine sn_if_eq (tgt := 55) hx hb d_En_doFirst_39 (by decide) (fun b168 => ?_) (fun b168 => ?_)
            · subst hZ
              exact tz_ret (W.vret hx hb hr (fun t ht hW => ⟨⟨fun v9 hv9 => by cases hv9; exact (⟨t_he160, dp, rfl, c165, by rw [ht]; exact hI.1⟩), fun x9 hx9 => (by cases hx9)⟩, hI.2.F ht⟩) hI.2.2.2 d_En_doFirst_55)
            · omega
          · cases hv
            have hI : sI (dC, dI) vcl cI cJ (gsC a t_he160 dp co li op wd tl lc fo sf lf nf) A s.heap H1 locs1 := ⟨by rw [← ht]; exact hI1, hS⟩
            clear hpost hI1 hS ht hWt
            revert hI; generalize H1 = H; generalize locs1 = locs; intro hI
            refine sn_if_eq (tgt := 55) hx hb d_En_doFirst_39 (by decide) (fun b169 => ?_) (fun b169 => ?_)
            · omega
            · refine lv_aload_n hx hb d_En_doFirst_42 rfl (lv_at hl 1 rfl) ?_
              refine lv_iload_n hx hb d_En_doFirst_43 rfl (lv_at hl 0 rfl) ?_
              refine sn_if_eq (tgt := 51) hx hb d_En_doFirst_44 (by decide) (fun b170 => ?_) (fun b170 => ?_)
              · refine sn_iconst hx hb d_En_doFirst_51 (by decide) (fun z171 hz171 => ?_)
                refine tz_call (A1 := ga (adC a) H.size) (tz_runV (C := "StoryMachine$Engine") (As := [.int z171]) (rest := []) ⟨hx, hb, hml, hown, hts⟩ (c_En_branch l hfl dC dI cI cJ a H.size t_he160 dp co li op wd tl lc fo sf lf nf z171 c167 (by omega) (by omega)) (tx_cb (n := 1) hts rfl rfl ⟨Nat.le_of_ble_eq_true rfl, Nat.le_of_ble_eq_true rfl⟩ (tx_code.of (hts _ mw_706)) (hts _ mw_6) (by decide +kernel) (hts _ mw_703)) (hts _ mw_705) (hts _ ms_En_branch) ⟨tz_blind, sv_recv (q0 := 5) hts in_En hK hI kC_5 rfl, fun U hU hW => ⟨rfl, by rw [hU], by rw [hU]; exact hI.1, va_K.moved hW.alike hK, hst _ _ hI.2 U hU hW⟩⟩ rfl rfl hl.1 rfl (lv_room (Nat.le_of_ble_eq_true rfl)) d_En_doFirst_52 ⟨Nat.le_of_ble_eq_true rfl, Nat.le_of_ble_eq_true rfl⟩) hI.2 (fun q _ h => ga_sub hAC hA0 hI.2 q h) (ga_sub hAC hA0 hI.2) (fun v t H1 locs1 ht hWt hpost _ _ hS => ?_) (fun x t H1 locs1 ht hWt hpost _ _ hS => ?_)
                · rcases hpost.1 _ rfl with ⟨t_he172, t_dp173, hv, c174, hI1⟩
                  cases hv
                  have hI : sI (dC, dI) vcl cI cJ (gsC a t_he172 t_dp173 co li op wd tl lc fo sf lf nf) A s.heap H1 locs1 := ⟨by rw [← ht]; exact hI1, hS⟩
                  obtain ⟨⟨o175, o176⟩, ⟨o177, o178⟩, -, -, -, -, -, -, -, -, -, -⟩ := id c174
                  clear hpost hI1 hS ht hWt
                  revert hI; generalize H1 = H; generalize locs1 = locs; intro hI
                  subst hZ
                  exact tz_ret (W.vret hx hb hr (fun t ht hW => ⟨⟨fun v9 hv9 => by cases hv9; exact (⟨t_he172, t_dp173, rfl, c174, by rw [ht]; exact hI.1⟩), fun x9 hx9 => (by cases hx9)⟩, hI.2.F ht⟩) hI.2.2.2 d_En_doFirst_55)
                · rcases hpost.2 _ rfl with ⟨t_he179, t_dp180, hex, c181, c181_0, hI1⟩ | ⟨t_he182, t_dp183, hex, c184, c184_0, c184_1, hI1⟩
                  · have hI : sI (dC, dI) vcl cI cJ (gsC a t_he179 t_dp180 co li op wd tl lc fo sf lf nf) A s.heap H1 locs1 := ⟨by rw [← ht]; exact hI1, hS⟩
                    obtain ⟨⟨o185, o186⟩, ⟨o187, o188⟩, -, -, -, -, -, -, -, -, -, -⟩ := id c181
                    refine tz_widen (k := 1) (n := 6) (Nat.le_of_ble_eq_true rfl) (Nat.le_of_ble_eq_true rfl) ?_
                    subst hZ
                    exact tz_leave (tx_noH B (hts _ mw_731) _) (fun t9 ht9 hW9 => ⟨⟨fun v9 hv9 => (by cases hv9), fun x9 hx9 => by cases hx9; exact (Or.inl ⟨t_he179, t_dp180, ta_exm hex ht ht9 hWt hW9, c181, by rw [ht9]; exact hI.1⟩)⟩, hI.2.F ht9⟩) hI.2.2.2 hlocks
                  · have hI : sI (dC, dI) vcl cI cJ (gsC a t_he182 t_dp183 co li op wd tl lc fo sf lf nf) A s.heap H1 locs1 := ⟨by rw [← ht]; exact hI1, hS⟩
                    obtain ⟨⟨o189, o190⟩, ⟨o191, o192⟩, -, -, -, -, -, -, -, -, -, -⟩ := id c184
                    refine tz_widen (k := 1) (n := 6) (Nat.le_of_ble_eq_true rfl) (Nat.le_of_ble_eq_true rfl) ?_
                    subst hZ
                    exact tz_leave (tx_noH B (hts _ mw_731) _) (fun t9 ht9 hW9 => ⟨⟨fun v9 hv9 => (by cases hv9), fun x9 hx9 => by cases hx9; exact (Or.inr (⟨t_he182, t_dp183, ta_exm hex ht ht9 hWt hW9, c184, by rw [ht9]; exact hI.1⟩))⟩, hI.2.F ht9⟩) hI.2.2.2 hlocks
              · refine sn_iconst hx hb d_En_doFirst_47 (by decide) (fun z193 hz193 => ?_)
                refine lv_goto (tgt := 52) hx hb d_En_doFirst_48 (by decide) ?_
                refine tz_call (A1 := ga (adC a) H.size) (tz_runV (C := "StoryMachine$Engine") (As := [.int z193]) (rest := []) ⟨hx, hb, hml, hown, hts⟩ (c_En_branch l hfl dC dI cI cJ a H.size t_he160 dp co li op wd tl lc fo sf lf nf z193 c167 (by omega) (by omega)) (tx_cb (n := 1) hts rfl rfl ⟨Nat.le_of_ble_eq_true rfl, Nat.le_of_ble_eq_true rfl⟩ (tx_code.of (hts _ mw_706)) (hts _ mw_6) (by decide +kernel) (hts _ mw_703)) (hts _ mw_705) (hts _ ms_En_branch) ⟨tz_blind, sv_recv (q0 := 5) hts in_En hK hI kC_5 rfl, fun U hU hW => ⟨rfl, by rw [hU], by rw [hU]; exact hI.1, va_K.moved hW.alike hK, hst _ _ hI.2 U hU hW⟩⟩ rfl rfl hl.1 rfl (lv_room (Nat.le_of_ble_eq_true rfl)) d_En_doFirst_52 ⟨Nat.le_of_ble_eq_true rfl, Nat.le_of_ble_eq_true rfl⟩) hI.2 (fun q _ h => ga_sub hAC hA0 hI.2 q h) (ga_sub hAC hA0 hI.2) (fun v t H1 locs1 ht hWt hpost _ _ hS => ?_) (fun x t H1 locs1 ht hWt hpost _ _ hS => ?_)
                · rcases hpost.1 _ rfl with ⟨t_he194, t_dp195, hv, c196, hI1⟩
                  cases hv
                  have hI : sI (dC, dI) vcl cI cJ (gsC a t_he194 t_dp195 co li op wd tl lc fo sf lf nf) A s.heap H1 locs1 := ⟨by rw [← ht]; exact hI1, hS⟩
                  obtain ⟨⟨o197, o198⟩, ⟨o199, o200⟩, -, -, -, -, -, -, -, -, -, -⟩ := id c196
                  clear hpost hI1 hS ht hWt
                  revert hI; generalize H1 = H; generalize locs1 = locs; intro hI
                  subst hZ
                  exact tz_ret (W.vret hx hb hr (fun t ht hW => ⟨⟨fun v9 hv9 => by cases hv9; exact (⟨t_he194, t_dp195, rfl, c196, by rw [ht]; exact hI.1⟩), fun x9 hx9 => (by cases hx9)⟩, hI.2.F ht⟩) hI.2.2.2 d_En_doFirst_55)
                · rcases hpost.2 _ rfl with ⟨t_he201, t_dp202, hex, c203, c203_0, hI1⟩ | ⟨t_he204, t_dp205, hex, c206, c206_0, c206_1, hI1⟩
                  · have hI : sI (dC, dI) vcl cI cJ (gsC a t_he201 t_dp202 co li op wd tl lc fo sf lf nf) A s.heap H1 locs1 := ⟨by rw [← ht]; exact hI1, hS⟩
                    obtain ⟨⟨o207, o208⟩, ⟨o209, o210⟩, -, -, -, -, -, -, -, -, -, -⟩ := id c203
                    refine tz_widen (k := 1) (n := 6) (Nat.le_of_ble_eq_true rfl) (Nat.le_of_ble_eq_true rfl) ?_
                    subst hZ
                    exact tz_leave (tx_noH B (hts _ mw_731) _) (fun t9 ht9 hW9 => ⟨⟨fun v9 hv9 => (by cases hv9), fun x9 hx9 => by cases hx9; exact (Or.inl ⟨t_he201, t_dp202, ta_exm hex ht ht9 hWt hW9, c203, by rw [ht9]; exact hI.1⟩)⟩, hI.2.F ht9⟩) hI.2.2.2 hlocks
                  · have hI : sI (dC, dI) vcl cI cJ (gsC a t_he204 t_dp205 co li op wd tl lc fo sf lf nf) A s.heap H1 locs1 := ⟨by rw [← ht]; exact hI1, hS⟩
                    obtain ⟨⟨o211, o212⟩, ⟨o213, o214⟩, -, -, -, -, -, -, -, -, -, -⟩ := id c206
                    refine tz_widen (k := 1) (n := 6) (Nat.le_of_ble_eq_true rfl) (Nat.le_of_ble_eq_true rfl) ?_
                    subst hZ
                    exact tz_leave (tx_noH B (hts _ mw_731) _) (fun t9 ht9 hW9 => ⟨⟨fun v9 hv9 => (by cases hv9), fun x9 hx9 => by cases hx9; exact (Or.inr (⟨t_he204, t_dp205, ta_exm hex ht ht9 hWt hW9, c206, by rw [ht9]; exact hI.1⟩))⟩, hI.2.F ht9⟩) hI.2.2.2 hlocks
        · rcases hpost.2 _ rfl with ⟨hex, c215, hI1⟩ | ⟨hex, c216, c216_0, c216_1, hI1⟩
          · have hI : sI (dC, dI) vcl cI cJ (gsC a t_he154 dp co li op wd tl lc fo sf lf nf) A s.heap H1 locs1 := ⟨by rw [← ht]; exact hI1, hS⟩
            refine tz_widen (k := 1) (n := 6) (Nat.le_of_ble_eq_true rfl) (Nat.le_of_ble_eq_true rfl) ?_
            subst hZ
            exact tz_leave (tx_noH B (hts _ mw_731) _) (fun t9 ht9 hW9 => ⟨⟨fun v9 hv9 => (by cases hv9), fun x9 hx9 => by cases hx9; exact (Or.inl ⟨t_he154, dp, ta_exm hex ht ht9 hWt hW9, c215, by rw [ht9]; exact hI.1⟩)⟩, hI.2.F ht9⟩) hI.2.2.2 hlocks
          · have hI : sI (dC, dI) vcl cI cJ (gsC a t_he154 dp co li op wd tl lc fo sf lf nf) A s.heap H1 locs1 := ⟨by rw [← ht]; exact hI1, hS⟩
            refine tz_widen (k := 1) (n := 6) (Nat.le_of_ble_eq_true rfl) (Nat.le_of_ble_eq_true rfl) ?_
            subst hZ
            exact tz_leave (tx_noH B (hts _ mw_731) _) (fun t9 ht9 hW9 => ⟨⟨fun v9 hv9 => (by cases hv9), fun x9 hx9 => by cases hx9; exact (Or.inr (⟨t_he154, dp, ta_exm hex ht ht9 hWt hW9, c216, by rw [ht9]; exact hI.1⟩))⟩, hI.2.F ht9⟩) hI.2.2.2 hlocks
      · rcases hpost.2 _ rfl with ⟨hex, c217, c217_0, c217_1, hI1⟩ | ⟨hex, c218, c218_0, c218_1, c218_2, hI1⟩
        · have hI : sI (dC, dI) vcl cI cJ (gsC a he dp co li op wd tl lc fo sf lf nf) A s.heap H1 locs1 := ⟨by rw [← ht]; exact hI1, hS⟩
          refine tz_widen (k := 1) (n := 6) (Nat.le_of_ble_eq_true rfl) (Nat.le_of_ble_eq_true rfl) ?_
          subst hZ
          exact tz_leave (tx_noH B (hts _ mw_731) _) (fun t9 ht9 hW9 => ⟨⟨fun v9 hv9 => (by cases hv9), fun x9 hx9 => by cases hx9; exact (Or.inl ⟨he, dp, ta_exm hex ht ht9 hWt hW9, c217, by rw [ht9]; exact hI.1⟩)⟩, hI.2.F ht9⟩) hI.2.2.2 hlocks
        · have hI : sI (dC, dI) vcl cI cJ (gsC a he dp co li op wd tl lc fo sf lf nf) A s.heap H1 locs1 := ⟨by rw [← ht]; exact hI1, hS⟩
          refine tz_widen (k := 1) (n := 6) (Nat.le_of_ble_eq_true rfl) (Nat.le_of_ble_eq_true rfl) ?_
          subst hZ
          exact tz_leave (tx_noH B (hts _ mw_731) _) (fun t9 ht9 hW9 => ⟨⟨fun v9 hv9 => (by cases hv9), fun x9 hx9 => by cases hx9; exact (Or.inr (⟨he, dp, ta_exm hex ht ht9 hWt hW9, c218, by rw [ht9]; exact hI.1⟩))⟩, hI.2.F ht9⟩) hI.2.2.2 hlocks
abbrev q_En_divisor (dC : Nat → ClassId) (dI : Nat → Nat → Nat) (cI cJ : ClassId) (a : Nat → Nat) (he dp co li op wd tl lc fo : Int) (sf lf nf : Nat → Int32) (x0 : Int32) : Outcome → State → Prop := fun o t => (∀ v, o = .returned v → ((∃ (z : Int32), v = some (.int z) ∧ okC he dp co li op wd tl lc fo sf lf nf ∧ ((-32768) ≤ z.toInt) ∧ (z.toInt ≤ 32767) ∧ (1 ≤ x0.toInt) ∧ (z.toInt ≠ 0) ∧ sh_I (dC, dI) vcl cI cJ (gsC a he dp co li op wd tl lc fo sf lf nf) t.heap))) ∧ (∀ x, o = .threw x → ((ta_Ex "java/lang/ArithmeticException" x t ∧ okC he dp co li op wd tl lc fo sf lf nf ∧ (x0.toInt ≤ 0) ∧ sh_I (dC, dI) vcl cI cJ (gsC a he dp co li op wd tl lc fo sf lf nf) t.heap)))
def rm_En_divisor : Room := { frames := 7, cells := 1, slots := 6, locals := 130 }
set_option maxHeartbeats 4000000 in
set_option maxRecDepth 100000 in
theorem c_En_divisor (l : Launch) (hfl : l.flags = pinnedFlags ++ [noTraceFlag]) (dC : Nat → ClassId) (dI : Nat → Nat → Nat) (cI cJ : ClassId) (a : Nat → Nat) (sz : Nat) (he dp co li op wd tl lc fo : Int) (sf lf nf : Nat → Int32) (x0 : Int32) (hok : okC he dp co li op wd tl lc fo sf lf nf) (hp0 : 0 ≤ x0.toInt) (hp1 : x0.toInt ≤ 65535) : tz_Met l ⟨"StoryMachine$Engine", "divisor", "(I)I"⟩ tw_tbl rm_En_divisor (tzP (dC, dI) vcl cI cJ (gsC a he dp co li op wd tl lc fo sf lf nf) a (adC a) [.int x0] sz) (tq_Q (q_En_divisor dC dI cI cJ a he dp co li op wd tl lc fo sf lf nf x0) (ga (adC a) sz)) 0 0 1 6 (ga (adC a) sz) := by
  refine tz_ofW (cc := prog_4_method_12_code) (maxL := 1) (ret := (some .int)) (by decide) (tx_isM mw_840) ?_
  intro p e s m args below meth c s₁ B hml hv
  obtain ⟨rfl, hsz, hI0, hK, hst0⟩ := hv
  have hx := B.exec
  have hb := B.bytes
  have hr := B.returns
  have hts := atoms_spec (ws := tw_tbl) B.pre
  have hown : s.vm.findClass "StoryMachine$Engine" = some m.cls := findClass_of_methodNamed B.named
  have hlocks := B.notSynchronized
  subst hsz
  have hst := fun (H : Heap) (locs : List Loc) (hS : va_S (ga (adC a) s.heap.size) s.heap H locs) (U : State) (hU : U.heap = H) (hW : s.WarmedH U.vm) => zS_all adC_map hI0 hst0 hS hU hW
  have hAC : ∀ q ∈ adC a, ga (adC a) s.heap.size q := fun q h => Or.inl h
  have hA0 : ∀ q, s.heap.size ≤ q → ga (adC a) s.heap.size q := fun q h => Or.inr h
  have hI : sI (dC, dI) vcl cI cJ (gsC a he dp co li op wd tl lc fo sf lf nf) (ga (adC a) s.heap.size) s.heap s.heap [] := ⟨hI0, va_S.rf⟩
  clear hI0 hst0
  have hl := lv_entry ([.int x0]) (n := 1) (Nat.le_of_ble_eq_true rfl)
  rw [lg_entry_eq]
  generalize (lg_sl ([.int x0]) ++ List.replicate (1 - (lg_sl ([.int x0])).length) Slot.unset).toArray = ls at hl ⊢
  have hl : lv_has ls 1 [(0, .int x0)] := hl
  generalize hZ : tz_MQ below (tq_Q (q_En_divisor dC dI cI cJ a he dp co li op wd tl lc fo sf lf nf x0) (ga (adC a) s.heap.size)) ([.int x0] : List Value).toArray s 0 0 1 6 (ga (adC a) s.heap.size) = Z
  obtain ⟨A, hAe⟩ : ∃ A, A = ga (adC a) s.heap.size := ⟨_, rfl⟩
  rw [← hAe] at hst hAC hA0 hI hZ
  refine sv_start hI (fun H locs hI => ?_)
  obtain ⟨⟨o1, o2⟩, ⟨o3, o4⟩, ⟨o5, o6⟩, ⟨o7, o8⟩, ⟨o9, o10⟩, ⟨o11, o12⟩, ⟨o13, o14⟩, ⟨o15, o16⟩, ⟨o17, o18⟩, o19, -, -⟩ := id hok
  have gx0 := sn_rng x0
  refine lv_iload_n hx hb d_En_divisor_0 rfl (lv_at hl 0 rfl) ?_
  refine sn_if_ne (tgt := 12) hx hb d_En_divisor_1 (by decide) (fun b20 => ?_) (fun b20 => ?_)
  · refine lv_iload_n hx hb d_En_divisor_12 rfl (lv_at hl 0 rfl) ?_
    refine sn_i2s hx hb d_En_divisor_13 (fun z21 hz21a hz21b hz21c => ?_)
    subst hZ
    exact tz_ret (W.iret (v := z21) hx hb hr (fun t ht hW => ⟨⟨fun v9 hv9 => by cases hv9; exact (⟨z21, rfl, hok, by omega, by omega, by omega, by omega, by rw [ht]; exact hI.1⟩), fun x9 hx9 => (by cases hx9)⟩, hI.2.F ht⟩) hI.2.2.2 d_En_divisor_14)
  · refine W.widen (k := 0) (n := 0) (Nat.le_of_ble_eq_true rfl) (Nat.le_of_ble_eq_true rfl) ?_
    subst hZ
    exact tz_thrown (tth_En_ArithmeticException hx hb hfl hown hts (fun U hU hW => (hst _ _ hI.2 U hU hW).1) (by rw [hml]; exact hl.1) d_En_divisor_4 d_En_divisor_7 d_En_divisor_8 d_En_divisor_11 (tx_noH B (hts _ mw_840) _) (Nat.le_of_ble_eq_true rfl) (Nat.le_of_ble_eq_true rfl) (Nat.le_of_ble_eq_true rfl) (Nat.le_of_ble_eq_true rfl) (fun t ce hW hz hk hce hcl hvm => ⟨⟨⟨fun v9 hv9 => (by cases hv9), fun x9 hx9 => by cases hx9; exact (⟨⟨ce, hce, hcl, hvm⟩, hok, by omega, sh_kept hI.1 hk⟩)⟩, ta_thrown hI.2 hz hk⟩, _, rfl⟩) hI.2.2.2 hlocks)
