abbrev q_En_secondAsks (dC : Nat → ClassId) (dI : Nat → Nat → Nat) (cI cJ : ClassId) (a : Nat → Nat) (he dp co li op wd tl lc fo : Int) (sf lf nf : Nat → Int32) (x1 : Int32) (x2 : Int32) : Outcome → State → Prop := fun o t => (∀ v, o = .returned v → ((∃ (z : Int32) (he_ : Int), v = some (.int z) ∧ okC he_ dp co li op wd tl lc fo sf lf nf ∧ (0 ≤ z.toInt) ∧ (z.toInt ≤ 0) ∧ sh_I (dC, dI) vcl cI cJ (gsC a he_ dp co li op wd tl lc fo sf lf nf) t.heap) ∨ (∃ (z : Int32) (he_ : Int), v = some (.int z) ∧ okC he_ dp co li op wd tl lc fo sf lf nf ∧ (1 ≤ z.toInt) ∧ (z.toInt ≤ 1) ∧ sh_I (dC, dI) vcl cI cJ (gsC a he_ dp co li op wd tl lc fo sf lf nf) t.heap))) ∧ (∀ x, o = .threw x → ((∃ (he_ : Int), ta_Ex "java/lang/IllegalArgumentException" x t ∧ okC he_ dp co li op wd tl lc fo sf lf nf ∧ sh_I (dC, dI) vcl cI cJ (gsC a he_ dp co li op wd tl lc fo sf lf nf) t.heap) ∨ (∃ (he_ : Int), ta_Ex "java/lang/IllegalStateException" x t ∧ okC he_ dp co li op wd tl lc fo sf lf nf ∧ (x1.toInt ≤ 0) ∧ (4 ≤ op) ∧ (op ≤ 5) ∧ sh_I (dC, dI) vcl cI cJ (gsC a he_ dp co li op wd tl lc fo sf lf nf) t.heap)))
def rm_En_secondAsks : Room := { frames := 11, cells := 1, slots := 6, locals := 216 }
set_option maxHeartbeats 4000000 in
set_option maxRecDepth 100000 in
theorem c_En_secondAsks (l : Launch) (hfl : l.flags = pinnedFlags ++ [noTraceFlag]) (dC : Nat → ClassId) (dI : Nat → Nat → Nat) (cI cJ : ClassId) (a : Nat → Nat) (sz : Nat) (he dp co li op wd tl lc fo : Int) (sf lf nf : Nat → Int32) (x1 : Int32) (x2 : Int32) (hok : okC he dp co li op wd tl lc fo sf lf nf) (hp0 : 0 ≤ x1.toInt) (hp1 : x1.toInt ≤ 65535) (hp2 : 0 ≤ x2.toInt) (hp3 : x2.toInt ≤ 65535) : tz_Met l ⟨"StoryMachine$Engine", "secondAsks", "(II)Z"⟩ tw_tbl rm_En_secondAsks (tzP (dC, dI) vcl cI cJ (gsC a he dp co li op wd tl lc fo sf lf nf) a (adC a) [.ref (a 5), .int x1, .int x2] sz) (tq_Q (q_En_secondAsks dC dI cI cJ a he dp co li op wd tl lc fo sf lf nf x1 x2) (ga (adC a) sz)) 0 0 1 6 (ga (adC a) sz) := by
  refine tz_ofW (cc := prog_4_method_8_code) (maxL := 3) (ret := (some .boolean)) (by decide) (tx_isM mw_798) ?_
  intro p e s m args below meth c s₁ B hml hv
  obtain ⟨rfl, hsz, hI0, hK, hst0⟩ := hv
  have hx := B.exec
  have hb := B.bytes
  have hr := B.returns
  have hts := atoms_spec (ws := tw_tbl) B.pre
  have hown : s.vm.findClass "StoryMachine$Engine" = some m.cls := findClass_of_methodNamed B.named
  have hlocks := B.notSynchronized
  subst hsz
  have hst := fun (H : Heap) (locs : List Loc) (hS : va_S (ga (adC a) s.heap.size) s.heap H locs) (U : State) (hU : U.heap = H) (hW : s.WarmedH U.vm) => zS_all adC_map hI0 hst0 hS hU hW
  have hAC : ∀ q ∈ adC a, ga (adC a) s.heap.size q := fun q h => Or.inl h
  have hA0 : ∀ q, s.heap.size ≤ q → ga (adC a) s.heap.size q := fun q h => Or.inr h
  have hI : sI (dC, dI) vcl cI cJ (gsC a he dp co li op wd tl lc fo sf lf nf) (ga (adC a) s.heap.size) s.heap s.heap [] := ⟨hI0, va_S.rf⟩
  clear hI0 hst0
  have hl := lv_entry ([.ref (a 5), .int x1, .int x2]) (n := 3) (Nat.le_of_ble_eq_true rfl)
  rw [lg_entry_eq]
  generalize (lg_sl ([.ref (a 5), .int x1, .int x2]) ++ List.replicate (3 - (lg_sl ([.ref (a 5), .int x1, .int x2])).length) Slot.unset).toArray = ls at hl ⊢
  have hl : lv_has ls 3 [(0, .ref (a 5)), (1, .int x1), (2, .int x2)] := hl
  generalize hZ : tz_MQ below (tq_Q (q_En_secondAsks dC dI cI cJ a he dp co li op wd tl lc fo sf lf nf x1 x2) (ga (adC a) s.heap.size)) ([.ref (a 5), .int x1, .int x2] : List Value).toArray s 0 0 1 6 (ga (adC a) s.heap.size) = Z
  obtain ⟨A, hAe⟩ : ∃ A, A = ga (adC a) s.heap.size := ⟨_, rfl⟩
  rw [← hAe] at hst hAC hA0 hI hZ
  refine sv_start hI (fun H locs hI => ?_)
  obtain ⟨⟨o1, o2⟩, ⟨o3, o4⟩, ⟨o5, o6⟩, ⟨o7, o8⟩, ⟨o9, o10⟩, ⟨o11, o12⟩, ⟨o13, o14⟩, ⟨o15, o16⟩, ⟨o17, o18⟩, o19, -, -⟩ := id hok
  have gx1 := sn_rng x1
  have gx2 := sn_rng x2
  refine lv_aload_n hx hb d_En_secondAsks_0 rfl (lv_at hl 0 rfl) ?_
  refine sv_getr (C := "StoryMachine$Engine") (T := T_En) (N := 15) hx hb hts in_En hown hK hI 5 kC_5 rfl 7 (by decide) (hts _ mw_268) rfl d_En_secondAsks_1 ?_
  refine sv_gete (C := "StoryMachine$Instruction") (T := T_In) (N := 11) hx hb hts in_In hown hK hI 19 kC_19 rfl 5 (by decide) (hts _ mw_227) rfl d_En_secondAsks_4 (fun z20 hz20 => ?_)
  have w21 : W p l e (headSpec tw_tbl rm_En_secondAsks).room s m ([.ref (a 5), .int x1, .int x2] : List Value).toArray below meth c H locs 0 0 Z (F0 m 145 ls []) := by
    refine lv_aload_n hx hb d_En_secondAsks_145 rfl (lv_at hl 0 rfl) ?_
    refine sv_getr (C := "StoryMachine$Engine") (T := T_En) (N := 15) hx hb hts in_En hown hK hI 5 kC_5 rfl 5 (by decide) (hts _ mw_266) rfl d_En_secondAsks_146 ?_
    refine lv_iload_n hx hb d_En_secondAsks_149 rfl (lv_at hl 1 rfl) ?_
    refine lv_iload_n hx hb d_En_secondAsks_150 rfl (lv_at hl 2 rfl) ?_
    refine tz_call (A1 := ga (adC a) H.size) (tz_runV (C := "StoryMachine$Tree") (As := [.int x1, .int x2]) (rest := []) ⟨hx, hb, hml, hown, hts⟩ (c_Tr_hasAttribute l hfl dC dI cI cJ a H.size he dp co li op wd tl lc fo sf lf nf x1 x2 hok) (tx_cb (n := 2) hts rfl rfl ⟨Nat.le_of_ble_eq_true rfl, Nat.le_of_ble_eq_true rfl⟩ (tx_code.of (hts _ mw_806)) (hts _ mw_9) (by decide +kernel) (hts _ mw_803)) (hts _ mw_804) (hts _ mw_805) ⟨tz_blind, sv_recv (q0 := 17) hts in_Tr hK hI kC_17 rfl, fun U hU hW => ⟨rfl, by rw [hU], by rw [hU]; exact hI.1, va_K.moved hW.alike hK, hst _ _ hI.2 U hU hW⟩⟩ rfl rfl hl.1 rfl (lv_room (Nat.le_of_ble_eq_true rfl)) d_En_secondAsks_151 ⟨Nat.le_of_ble_eq_true rfl, Nat.le_of_ble_eq_true rfl⟩) hI.2 (fun q _ h => ga_sub hAC hA0 hI.2 q h) (ga_sub hAC hA0 hI.2) (fun v t H1 locs1 ht hWt hpost _ _ hS => ?_) (fun x t H1 locs1 ht hWt hpost _ _ hS => ?_)
    · rcases hpost.1 _ rfl with ⟨z22, hv, c23, c23_0, c23_1, c23_2, c23_3, c23_4, hI1⟩ | ⟨z24, hv, c25, c25_0, c25_1, c25_2, c25_3, c25_4, hI1⟩
      · cases hv
        have hI : sI (dC, dI) vcl cI cJ (gsC a he dp co li op wd tl lc fo sf lf nf) A s.heap H1 locs1 := ⟨by rw [← ht]; exact hI1, hS⟩
        clear hpost hI1 hS ht hWt
        revert hI; generalize H1 = H; generalize locs1 = locs; intro hI
        subst hZ
        exact tz_ret (W.zret (v := z22) hx hb hr (sn_bool (by omega) (by omega)).1 (fun t ht hW => ⟨⟨fun v9 hv9 => by cases hv9; exact (Or.inl ⟨z22, he, rfl, c23, by omega, by omega, by rw [ht]; exact hI.1⟩), fun x9 hx9 => (by cases hx9)⟩, hI.2.F ht⟩) hI.2.2.2 d_En_secondAsks_154)
      · cases hv
        have hI : sI (dC, dI) vcl cI cJ (gsC a he dp co li op wd tl lc fo sf lf nf) A s.heap H1 locs1 := ⟨by rw [← ht]; exact hI1, hS⟩
        clear hpost hI1 hS ht hWt
        revert hI; generalize H1 = H; generalize locs1 = locs; intro hI
        subst hZ
        exact tz_ret (W.zret (v := z24) hx hb hr (sn_bool (by omega) (by omega)).1 (fun t ht hW => ⟨⟨fun v9 hv9 => by cases hv9; exact (Or.inr (⟨z24, he, rfl, c25, by omega, by omega, by rw [ht]; exact hI.1⟩)), fun x9 hx9 => (by cases hx9)⟩, hI.2.F ht⟩) hI.2.2.2 d_En_secondAsks_154)
    · rcases hpost.2 _ rfl with ⟨hex, c26, hI1⟩
      have hI : sI (dC, dI) vcl cI cJ (gsC a he dp co li op wd tl lc fo sf lf nf) A s.heap H1 locs1 := ⟨by rw [← ht]; exact hI1, hS⟩
      refine tz_widen (k := 1) (n := 6) (Nat.le_of_ble_eq_true rfl) (Nat.le_of_ble_eq_true rfl) ?_
      subst hZ
      exact tz_leave (tx_noH B (hts _ mw_798) _) (fun t9 ht9 hW9 => ⟨⟨fun v9 hv9 => (by cases hv9), fun x9 hx9 => by cases hx9; exact (Or.inl ⟨he, ta_exm hex ht ht9 hWt hW9, c26, by rw [ht9]; exact hI.1⟩)⟩, hI.2.F ht9⟩) hI.2.2.2 hlocks
  by_cases b27 : z20.toInt = 1
  · refine sn_tin (v := 1) (off := 41) (tgt := 48) hx hb d_En_secondAsks_7 b27 (by decide) (by decide) (by decide) (by decide) ?_
    refine lv_aload_n hx hb d_En_secondAsks_48 rfl (lv_at hl 0 rfl) ?_
    refine lv_iload_n hx hb d_En_secondAsks_49 rfl (lv_at hl 1 rfl) ?_
    refine tz_call (A1 := ga (adC a) H.size) (tz_runV (C := "StoryMachine$Engine") (As := [.int x1]) (rest := []) ⟨hx, hb, hml, hown, hts⟩ (c_En_isAmongOthers l hfl dC dI cI cJ a H.size he dp co li op wd tl lc fo sf lf nf x1 hok (by omega) (by omega)) (tx_cb (n := 1) hts rfl rfl ⟨Nat.le_of_ble_eq_true rfl, Nat.le_of_ble_eq_true rfl⟩ (tx_code.of (hts _ mw_802)) (hts _ mw_6) (by decide +kernel) (hts _ mw_799)) (hts _ mw_801) (hts _ ms_En_isAmongOthers) ⟨tz_blind, sv_recv (q0 := 5) hts in_En hK hI kC_5 rfl, fun U hU hW => ⟨rfl, by rw [hU], by rw [hU]; exact hI.1, va_K.moved hW.alike hK, hst _ _ hI.2 U hU hW⟩⟩ rfl rfl hl.1 rfl (lv_room (Nat.le_of_ble_eq_true rfl)) d_En_secondAsks_50 ⟨Nat.le_of_ble_eq_true rfl, Nat.le_of_ble_eq_true rfl⟩) hI.2 (fun q _ h => ga_sub hAC hA0 hI.2 q h) (ga_sub hAC hA0 hI.2) (fun v t H1 locs1 ht hWt hpost _ _ hS => ?_) (fun x t H1 locs1 ht hWt hpost _ _ hS => (hpost.2 x rfl).elim)
    rcases hpost.1 _ rfl with ⟨z28, hv, c29, c29_0, c29_1, hI1⟩ | ⟨z30, hv, c31, c31_0, c31_1, c31_2, hI1⟩
    · cases hv
      have hI : sI (dC, dI) vcl cI cJ (gsC a he dp co li op wd tl lc fo sf lf nf) A s.heap H1 locs1 := ⟨by rw [← ht]; exact hI1, hS⟩
      clear hpost hI1 hS ht hWt
      revert hI; generalize H1 = H; generalize locs1 = locs; intro hI
      subst hZ
      exact tz_ret (W.zret (v := z28) hx hb hr (sn_bool (by omega) (by omega)).1 (fun t ht hW => ⟨⟨fun v9 hv9 => by cases hv9; exact (Or.inl ⟨z28, he, rfl, c29, by omega, by omega, by rw [ht]; exact hI.1⟩), fun x9 hx9 => (by cases hx9)⟩, hI.2.F ht⟩) hI.2.2.2 d_En_secondAsks_53)
    · cases hv
      have hI : sI (dC, dI) vcl cI cJ (gsC a he dp co li op wd tl lc fo sf lf nf) A s.heap H1 locs1 := ⟨by rw [← ht]; exact hI1, hS⟩
      clear hpost hI1 hS ht hWt
      revert hI; generalize H1 = H; generalize locs1 = locs; intro hI
      subst hZ
      exact tz_ret (W.zret (v := z30) hx hb hr (sn_bool (by omega) (by omega)).1 (fun t ht hW => ⟨⟨fun v9 hv9 => by cases hv9; exact (Or.inr (⟨z30, he, rfl, c31, by omega, by omega, by rw [ht]; exact hI.1⟩)), fun x9 hx9 => (by cases hx9)⟩, hI.2.F ht⟩) hI.2.2.2 d_En_secondAsks_53)
  by_cases b32 : z20.toInt = 2
  · refine sn_tin (v := 2) (off := 47) (tgt := 54) hx hb d_En_secondAsks_7 b32 (by decide) (by decide) (by decide) (by decide) ?_
    refine lv_iload_n hx hb d_En_secondAsks_54 rfl (lv_at hl 1 rfl) ?_
    refine sn_i2s hx hb d_En_secondAsks_55 (fun z33 hz33a hz33b hz33c => ?_)
    refine lv_iload_n hx hb d_En_secondAsks_56 rfl (lv_at hl 2 rfl) ?_
    refine sn_i2s hx hb d_En_secondAsks_57 (fun z34 hz34a hz34b hz34c => ?_)
    refine sn_icmp_ge (tgt := 65) hx hb d_En_secondAsks_58 (by decide) (fun b35 => ?_) (fun b35 => ?_)
    · refine sn_iconst hx hb d_En_secondAsks_65 (by decide) (fun z36 hz36 => ?_)
      subst hZ
      exact tz_ret (W.zret (v := z36) hx hb hr (sn_bool (by omega) (by omega)).1 (fun t ht hW => ⟨⟨fun v9 hv9 => by cases hv9; exact (Or.inl ⟨z36, he, rfl, hok, by omega, by omega, by rw [ht]; exact hI.1⟩), fun x9 hx9 => (by cases hx9)⟩, hI.2.F ht⟩) hI.2.2.2 d_En_secondAsks_66)
    · refine sn_iconst hx hb d_En_secondAsks_61 (by decide) (fun z37 hz37 => ?_)
      refine lv_goto (tgt := 66) hx hb d_En_secondAsks_62 (by decide) ?_
      subst hZ
      exact tz_ret (W.zret (v := z37) hx hb hr (sn_bool (by omega) (by omega)).1 (fun t ht hW => ⟨⟨fun v9 hv9 => by cases hv9; exact (Or.inr (⟨z37, he, rfl, hok, by omega, by omega, by rw [ht]; exact hI.1⟩)), fun x9 hx9 => (by cases hx9)⟩, hI.2.F ht⟩) hI.2.2.2 d_En_secondAsks_66)
  by_cases b38 : z20.toInt = 3
  · refine sn_tin (v := 3) (off := 60) (tgt := 67) hx hb d_En_secondAsks_7 b38 (by decide) (by decide) (by decide) (by decide) ?_
    refine lv_iload_n hx hb d_En_secondAsks_67 rfl (lv_at hl 1 rfl) ?_
    refine sn_i2s hx hb d_En_secondAsks_68 (fun z39 hz39a hz39b hz39c => ?_)
    refine lv_iload_n hx hb d_En_secondAsks_69 rfl (lv_at hl 2 rfl) ?_
    refine sn_i2s hx hb d_En_secondAsks_70 (fun z40 hz40a hz40b hz40c => ?_)
    refine sn_icmp_le (tgt := 78) hx hb d_En_secondAsks_71 (by decide) (fun b41 => ?_) (fun b41 => ?_)
    · refine sn_iconst hx hb d_En_secondAsks_78 (by decide) (fun z42 hz42 => ?_)
      subst hZ
      exact tz_ret (W.zret (v := z42) hx hb hr (sn_bool (by omega) (by omega)).1 (fun t ht hW => ⟨⟨fun v9 hv9 => by cases hv9; exact (Or.inl ⟨z42, he, rfl, hok, by omega, by omega, by rw [ht]; exact hI.1⟩), fun x9 hx9 => (by cases hx9)⟩, hI.2.F ht⟩) hI.2.2.2 d_En_secondAsks_79)
    · refine sn_iconst hx hb d_En_secondAsks_74 (by decide) (fun z43 hz43 => ?_)
      refine lv_goto (tgt := 79) hx hb d_En_secondAsks_75 (by decide) ?_
      subst hZ
      exact tz_ret (W.zret (v := z43) hx hb hr (sn_bool (by omega) (by omega)).1 (fun t ht hW => ⟨⟨fun v9 hv9 => by cases hv9; exact (Or.inr (⟨z43, he, rfl, hok, by omega, by omega, by rw [ht]; exact hI.1⟩)), fun x9 hx9 => (by cases hx9)⟩, hI.2.F ht⟩) hI.2.2.2 d_En_secondAsks_79)
  by_cases b44 : z20.toInt = 4
  · refine sn_tin (v := 4) (off := 73) (tgt := 80) hx hb d_En_secondAsks_7 b44 (by decide) (by decide) (by decide) (by decide) ?_
    refine lv_aload_n hx hb d_En_secondAsks_80 rfl (lv_at hl 0 rfl) ?_
    refine lv_iload_n hx hb d_En_secondAsks_81 rfl (lv_at hl 1 rfl) ?_
    refine sn_iconst hx hb d_En_secondAsks_82 (by decide) (fun z45 hz45 => ?_)
    refine tz_call (A1 := ga (adC a) H.size) (tz_runV (C := "StoryMachine$Engine") (As := [.int x1, .int z45]) (rest := []) ⟨hx, hb, hml, hown, hts⟩ (c_En_changedBy l hfl dC dI cI cJ a H.size he dp co li op wd tl lc fo sf lf nf x1 z45 hok (by omega) (by omega) (by omega) (by omega)) (tx_cb (n := 2) hts rfl rfl ⟨Nat.le_of_ble_eq_true rfl, Nat.le_of_ble_eq_true rfl⟩ (tx_code.of (hts _ mw_769)) (hts _ mw_6) (by decide +kernel) (hts _ mw_766)) (hts _ mw_768) (hts _ ms_En_changedBy) ⟨tz_blind, sv_recv (q0 := 5) hts in_En hK hI kC_5 rfl, fun U hU hW => ⟨rfl, by rw [hU], by rw [hU]; exact hI.1, va_K.moved hW.alike hK, hst _ _ hI.2 U hU hW⟩⟩ rfl rfl hl.1 rfl (lv_room (Nat.le_of_ble_eq_true rfl)) d_En_secondAsks_83 ⟨Nat.le_of_ble_eq_true rfl, Nat.le_of_ble_eq_true rfl⟩) hI.2 (fun q _ h => ga_sub hAC hA0 hI.2 q h) (ga_sub hAC hA0 hI.2) (fun v t H1 locs1 ht hWt hpost _ _ hS => ?_) (fun x t H1 locs1 ht hWt hpost _ _ hS => ?_)
    · rcases hpost.1 _ rfl with ⟨z46, t_he47, hv, c48, c48_0, c48_1, c48_2, hI1⟩
      cases hv
      have hI : sI (dC, dI) vcl cI cJ (gsC a t_he47 dp co li op wd tl lc fo sf lf nf) A s.heap H1 locs1 := ⟨by rw [← ht]; exact hI1, hS⟩
      obtain ⟨⟨o49, o50⟩, -, -, -, -, -, -, -, -, -, -, -⟩ := id c48
      clear hpost hI1 hS ht hWt
      revert hI; generalize H1 = H; generalize locs1 = locs; intro hI
      refine lv_iload_n hx hb d_En_secondAsks_86 rfl (lv_at hl 2 rfl) ?_
      refine sn_i2s hx hb d_En_secondAsks_87 (fun z51 hz51a hz51b hz51c => ?_)
      refine sn_icmp_ge (tgt := 95) hx hb d_En_secondAsks_88 (by decide) (fun b52 => ?_) (fun b52 => ?_)
      · refine sn_iconst hx hb d_En_secondAsks_95 (by decide) (fun z53 hz53 => ?_)
        subst hZ
        exact tz_ret (W.zret (v := z53) hx hb hr (sn_bool (by omega) (by omega)).1 (fun t ht hW => ⟨⟨fun v9 hv9 => by cases hv9; exact (Or.inl ⟨z53, t_he47, rfl, c48, by omega, by omega, by rw [ht]; exact hI.1⟩), fun x9 hx9 => (by cases hx9)⟩, hI.2.F ht⟩) hI.2.2.2 d_En_secondAsks_96)
      · refine sn_iconst hx hb d_En_secondAsks_91 (by decide) (fun z54 hz54 => ?_)
        refine lv_goto (tgt := 96) hx hb d_En_secondAsks_92 (by decide) ?_
        subst hZ
        exact tz_ret (W.zret (v := z54) hx hb hr (sn_bool (by omega) (by omega)).1 (fun t ht hW => ⟨⟨fun v9 hv9 => by cases hv9; exact (Or.inr (⟨z54, t_he47, rfl, c48, by omega, by omega, by rw [ht]; exact hI.1⟩)), fun x9 hx9 => (by cases hx9)⟩, hI.2.F ht⟩) hI.2.2.2 d_En_secondAsks_96)
    · rcases hpost.2 _ rfl with ⟨t_he55, hex, c56, hI1⟩ | ⟨t_he57, hex, c58, c58_0, hI1⟩
      · have hI : sI (dC, dI) vcl cI cJ (gsC a t_he55 dp co li op wd tl lc fo sf lf nf) A s.heap H1 locs1 := ⟨by rw [← ht]; exact hI1, hS⟩
        obtain ⟨⟨o59, o60⟩, -, -, -, -, -, -, -, -, -, -, -⟩ := id c56
        refine tz_widen (k := 1) (n := 6) (Nat.le_of_ble_eq_true rfl) (Nat.le_of_ble_eq_true rfl) ?_
        subst hZ
        exact tz_leave (tx_noH B (hts _ mw_798) _) (fun t9 ht9 hW9 => ⟨⟨fun v9 hv9 => (by cases hv9), fun x9 hx9 => by cases hx9; exact (Or.inl ⟨t_he55, ta_exm hex ht ht9 hWt hW9, c56, by rw [ht9]; exact hI.1⟩)⟩, hI.2.F ht9⟩) hI.2.2.2 hlocks
      · have hI : sI (dC, dI) vcl cI cJ (gsC a t_he57 dp co li op wd tl lc fo sf lf nf) A s.heap H1 locs1 := ⟨by rw [← ht]; exact hI1, hS⟩
        obtain ⟨⟨o61, o62⟩, -, -, -, -, -, -, -, -, -, -, -⟩ := id c58
        refine tz_widen (k := 1) (n := 6) (Nat.le_of_ble_eq_true rfl) (Nat.le_of_ble_eq_true rfl) ?_
        subst hZ
        exact tz_leave (tx_noH B (hts _ mw_798) _) (fun t9 ht9 hW9 => ⟨⟨fun v9 hv9 => (by cases hv9), fun x9 hx9 => by cases hx9; exact (Or.inr (⟨t_he57, ta_exm hex ht ht9 hWt hW9, c58, by omega, by omega, by omega, by rw [ht9]; exact hI.1⟩))⟩, hI.2.F ht9⟩) hI.2.2.2 hlocks
  by_cases b63 : z20.toInt = 5
  · refine sn_tin (v := 5) (off := 90) (tgt := 97) hx hb d_En_secondAsks_7 b63 (by decide) (by decide) (by decide) (by decide) ?_
    refine lv_aload_n hx hb d_En_secondAsks_97 rfl (lv_at hl 0 rfl) ?_
    refine lv_iload_n hx hb d_En_secondAsks_98 rfl (lv_at hl 1 rfl) ?_
    refine sn_iconst hx hb d_En_secondAsks_99 (by decide) (fun z64 hz64 => ?_)
    refine tz_call (A1 := ga (adC a) H.size) (tz_runV (C := "StoryMachine$Engine") (As := [.int x1, .int z64]) (rest := []) ⟨hx, hb, hml, hown, hts⟩ (c_En_changedBy l hfl dC dI cI cJ a H.size he dp co li op wd tl lc fo sf lf nf x1 z64 hok (by omega) (by omega) (by omega) (by omega)) (tx_cb (n := 2) hts rfl rfl ⟨Nat.le_of_ble_eq_true rfl, Nat.le_of_ble_eq_true rfl⟩ (tx_code.of (hts _ mw_769)) (hts _ mw_6) (by decide +kernel) (hts _ mw_766)) (hts _ mw_768) (hts _ ms_En_changedBy) ⟨tz_blind, sv_recv (q0 := 5) hts in_En hK hI kC_5 rfl, fun U hU hW => ⟨rfl, by rw [hU], by rw [hU]; exact hI.1, va_K.moved hW.alike hK, hst _ _ hI.2 U hU hW⟩⟩ rfl rfl hl.1 rfl (lv_room (Nat.le_of_ble_eq_true rfl)) d_En_secondAsks_100 ⟨Nat.le_of_ble_eq_true rfl, Nat.le_of_ble_eq_true rfl⟩) hI.2 (fun q _ h => ga_sub hAC hA0 hI.2 q h) (ga_sub hAC hA0 hI.2) (fun v t H1 locs1 ht hWt hpost _ _ hS => ?_) (fun x t H1 locs1 ht hWt hpost _ _ hS => ?_)
    · rcases hpost.1 _ rfl with ⟨z65, t_he66, hv, c67, c67_0, c67_1, c67_2, hI1⟩
      cases hv
      have hI : sI (dC, dI) vcl cI cJ (gsC a t_he66 dp co li op wd tl lc fo sf lf nf) A s.heap H1 locs1 := ⟨by rw [← ht]; exact hI1, hS⟩
      obtain ⟨⟨o68, o69⟩, -, -, -, -, -, -, -, -, -, -, -⟩ := id c67
      clear hpost hI1 hS ht hWt
      revert hI; generalize H1 = H; generalize locs1 = locs; intro hI
      refine lv_iload_n hx hb d_En_secondAsks_103 rfl (lv_at hl 2 rfl) ?_
      refine sn_i2s hx hb d_En_secondAsks_104 (fun z70 hz70a hz70b hz70c => ?_)
      refine sn_icmp_le (tgt := 112) hx hb d_En_secondAsks_105 (by decide) (fun b71 => ?_) (fun b71 => ?_)
      · refine sn_iconst hx hb d_En_secondAsks_112 (by decide) (fun z72 hz72 => ?_)
        subst hZ
        exact tz_ret (W.zret (v := z72) hx hb hr (sn_bool (by omega) (by omega)).1 (fun t ht hW => ⟨⟨fun v9 hv9 => by cases hv9; exact (Or.inl ⟨z72, t_he66, rfl, c67, by omega, by omega, by rw [ht]; exact hI.1⟩), fun x9 hx9 => (by cases hx9)⟩, hI.2.F ht⟩) hI.2.2.2 d_En_secondAsks_113)
      · refine sn_iconst hx hb d_En_secondAsks_108 (by decide) (fun z73 hz73 => ?_)
        refine lv_goto (tgt := 113) hx hb d_En_secondAsks_109 (by decide) ?_
        subst hZ
        exact tz_ret (W.zret (v := z73) hx hb hr (sn_bool (by omega) (by omega)).1 (fun t ht hW => ⟨⟨fun v9 hv9 => by cases hv9; exact (Or.inr (⟨z73, t_he66, rfl, c67, by omega, by omega, by rw [ht]; exact hI.1⟩)), fun x9 hx9 => (by cases hx9)⟩, hI.2.F ht⟩) hI.2.2.2 d_En_secondAsks_113)
    · rcases hpost.2 _ rfl with ⟨t_he74, hex, c75, hI1⟩ | ⟨t_he76, hex, c77, c77_0, hI1⟩
      · have hI : sI (dC, dI) vcl cI cJ (gsC a t_he74 dp co li op wd tl lc fo sf lf nf) A s.heap H1 locs1 := ⟨by rw [← ht]; exact hI1, hS⟩
        obtain ⟨⟨o78, o79⟩, -, -, -, -, -, -, -, -, -, -, -⟩ := id c75
        refine tz_widen (k := 1) (n := 6) (Nat.le_of_ble_eq_true rfl) (Nat.le_of_ble_eq_true rfl) ?_
        subst hZ
        exact tz_leave (tx_noH B (hts _ mw_798) _) (fun t9 ht9 hW9 => ⟨⟨fun v9 hv9 => (by cases hv9), fun x9 hx9 => by cases hx9; exact (Or.inl ⟨t_he74, ta_exm hex ht ht9 hWt hW9, c75, by rw [ht9]; exact hI.1⟩)⟩, hI.2.F ht9⟩) hI.2.2.2 hlocks
      · have hI : sI (dC, dI) vcl cI cJ (gsC a t_he76 dp co li op wd tl lc fo sf lf nf) A s.heap H1 locs1 := ⟨by rw [← ht]; exact hI1, hS⟩
        obtain ⟨⟨o80, o81⟩, -, -, -, -, -, -, -, -, -, -, -⟩ := id c77
        refine tz_widen (k := 1) (n := 6) (Nat.le_of_ble_eq_true rfl) (Nat.le_of_ble_eq_true rfl) ?_
        subst hZ
        exact tz_leave (tx_noH B (hts _ mw_798) _) (fun t9 ht9 hW9 => ⟨⟨fun v9 hv9 => (by cases hv9), fun x9 hx9 => by cases hx9; exact (Or.inr (⟨t_he76, ta_exm hex ht ht9 hWt hW9, c77, by omega, by omega, by omega, by rw [ht9]; exact hI.1⟩))⟩, hI.2.F ht9⟩) hI.2.2.2 hlocks
  by_cases b82 : z20.toInt = 6
  · refine sn_tin (v := 6) (off := 107) (tgt := 114) hx hb d_En_secondAsks_7 b82 (by decide) (by decide) (by decide) (by decide) ?_
    refine lv_aload_n hx hb d_En_secondAsks_114 rfl (lv_at hl 0 rfl) ?_
    refine sv_getr (C := "StoryMachine$Engine") (T := T_En) (N := 15) hx hb hts in_En hown hK hI 5 kC_5 rfl 5 (by decide) (hts _ mw_266) rfl d_En_secondAsks_115 ?_
    refine lv_iload_n hx hb d_En_secondAsks_118 rfl (lv_at hl 1 rfl) ?_
    refine tz_call (A1 := ga (adC a) H.size) (tz_runV (C := "StoryMachine$Tree") (As := [.int x1]) (rest := []) ⟨hx, hb, hml, hown, hts⟩ (c_Tr_parent l hfl dC dI cI cJ a H.size he dp co li op wd tl lc fo sf lf nf x1 hok) (tx_cb (n := 1) hts rfl rfl ⟨Nat.le_of_ble_eq_true rfl, Nat.le_of_ble_eq_true rfl⟩ (tx_code.of (hts _ mw_756)) (hts _ mw_9) (by decide +kernel) (hts _ mw_753)) (hts _ mw_754) (hts _ mw_755) ⟨tz_blind, sv_recv (q0 := 17) hts in_Tr hK hI kC_17 rfl, fun U hU hW => ⟨rfl, by rw [hU], by rw [hU]; exact hI.1, va_K.moved hW.alike hK, hst _ _ hI.2 U hU hW⟩⟩ rfl rfl hl.1 rfl (lv_room (Nat.le_of_ble_eq_true rfl)) d_En_secondAsks_119 ⟨Nat.le_of_ble_eq_true rfl, Nat.le_of_ble_eq_true rfl⟩) hI.2 (fun q _ h => ga_sub hAC hA0 hI.2 q h) (ga_sub hAC hA0 hI.2) (fun v t H1 locs1 ht hWt hpost _ _ hS => ?_) (fun x t H1 locs1 ht hWt hpost _ _ hS => ?_)
    · rcases hpost.1 _ rfl with ⟨z83, hv, c84, c84_0, c84_1, c84_2, c84_3, hI1⟩
      cases hv
      have hI : sI (dC, dI) vcl cI cJ (gsC a he dp co li op wd tl lc fo sf lf nf) A s.heap H1 locs1 := ⟨by rw [← ht]; exact hI1, hS⟩
      clear hpost hI1 hS ht hWt
      revert hI; generalize H1 = H; generalize locs1 = locs; intro hI
      refine lv_iload_n hx hb d_En_secondAsks_122 rfl (lv_at hl 2 rfl) ?_
      refine sn_icmp_ne (tgt := 130) hx hb d_En_secondAsks_123 (by decide) (fun b85 => ?_) (fun b85 => ?_)
      · refine sn_iconst hx hb d_En_secondAsks_130 (by decide) (fun z86 hz86 => ?_)
        subst hZ
        exact tz_ret (W.zret (v := z86) hx hb hr (sn_bool (by omega) (by omega)).1 (fun t ht hW => ⟨⟨fun v9 hv9 => by cases hv9; exact (Or.inl ⟨z86, he, rfl, c84, by omega, by omega, by rw [ht]; exact hI.1⟩), fun x9 hx9 => (by cases hx9)⟩, hI.2.F ht⟩) hI.2.2.2 d_En_secondAsks_131)
      · refine sn_iconst hx hb d_En_secondAsks_126 (by decide) (fun z87 hz87 => ?_)
        refine lv_goto (tgt := 131) hx hb d_En_secondAsks_127 (by decide) ?_
        subst hZ
        exact tz_ret (W.zret (v := z87) hx hb hr (sn_bool (by omega) (by omega)).1 (fun t ht hW => ⟨⟨fun v9 hv9 => by cases hv9; exact (Or.inr (⟨z87, he, rfl, c84, by omega, by omega, by rw [ht]; exact hI.1⟩)), fun x9 hx9 => (by cases hx9)⟩, hI.2.F ht⟩) hI.2.2.2 d_En_secondAsks_131)
    · rcases hpost.2 _ rfl with ⟨hex, c88, hI1⟩
      have hI : sI (dC, dI) vcl cI cJ (gsC a he dp co li op wd tl lc fo sf lf nf) A s.heap H1 locs1 := ⟨by rw [← ht]; exact hI1, hS⟩
      refine tz_widen (k := 1) (n := 6) (Nat.le_of_ble_eq_true rfl) (Nat.le_of_ble_eq_true rfl) ?_
      subst hZ
      exact tz_leave (tx_noH B (hts _ mw_798) _) (fun t9 ht9 hW9 => ⟨⟨fun v9 hv9 => (by cases hv9), fun x9 hx9 => by cases hx9; exact (Or.inl ⟨he, ta_exm hex ht ht9 hWt hW9, c88, by rw [ht9]; exact hI.1⟩)⟩, hI.2.F ht9⟩) hI.2.2.2 hlocks
  by_cases b89 : z20.toInt = 7
  · refine sn_tin (v := 7) (off := 125) (tgt := 132) hx hb d_En_secondAsks_7 b89 (by decide) (by decide) (by decide) (by decide) ?_
    refine lv_iload_n hx hb d_En_secondAsks_132 rfl (lv_at hl 1 rfl) ?_
    refine lv_iload_n hx hb d_En_secondAsks_133 rfl (lv_at hl 2 rfl) ?_
    refine sn_iandT hx hb d_En_secondAsks_134 (fun z90 hz90a hz90b => ?_)
    refine lv_iload_n hx hb d_En_secondAsks_135 rfl (lv_at hl 2 rfl) ?_
    refine sn_icmp_ne (tgt := 143) hx hb d_En_secondAsks_136 (by decide) (fun b91 => ?_) (fun b91 => ?_)
    · refine sn_iconst hx hb d_En_secondAsks_143 (by decide) (fun z92 hz92 => ?_)
      subst hZ
      exact tz_ret (W.zret (v := z92) hx hb hr (sn_bool (by omega) (by omega)).1 (fun t ht hW => ⟨⟨fun v9 hv9 => by cases hv9; exact (Or.inl ⟨z92, he, rfl, hok, by omega, by omega, by rw [ht]; exact hI.1⟩), fun x9 hx9 => (by cases hx9)⟩, hI.2.F ht⟩) hI.2.2.2 d_En_secondAsks_144)
    · refine sn_iconst hx hb d_En_secondAsks_139 (by decide) (fun z93 hz93 => ?_)
      refine lv_goto (tgt := 144) hx hb d_En_secondAsks_140 (by decide) ?_
      subst hZ
      exact tz_ret (W.zret (v := z93) hx hb hr (sn_bool (by omega) (by omega)).1 (fun t ht hW => ⟨⟨fun v9 hv9 => by cases hv9; exact (Or.inr (⟨z93, he, rfl, hok, by omega, by omega, by rw [ht]; exact hI.1⟩)), fun x9 hx9 => (by cases hx9)⟩, hI.2.F ht⟩) hI.2.2.2 d_En_secondAsks_144)
  exact lv_tableOut (tgt := 145) hx hb d_En_secondAsks_7 (by omega) (by decide) w21
