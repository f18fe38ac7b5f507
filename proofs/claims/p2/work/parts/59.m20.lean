abbrev q_En_putName (dC : Nat → ClassId) (dI : Nat → Nat → Nat) (cI cJ : ClassId) (a : Nat → Nat) (he dp co li op wd tl lc fo : Int) (sf lf nf : Nat → Int32) (x1 : Int32) : Outcome → State → Prop := fun o t => (∀ v, o = .returned v → ((v = none ∧ okC he dp co li op wd tl lc fo sf lf nf ∧ (1 ≤ x1.toInt) ∧ (x1.toInt ≤ 20) ∧ sh_I (dC, dI) vcl cI cJ (gsC a he dp co li op wd tl lc fo sf lf nf) t.heap))) ∧ (∀ x, o = .threw x → ((ta_Ex "java/lang/IllegalArgumentException" x t ∧ okC he dp co li op wd tl lc fo sf lf nf ∧ sh_I (dC, dI) vcl cI cJ (gsC a he dp co li op wd tl lc fo sf lf nf) t.heap)))
def rm_En_putName : Room := { frames := 9, cells := 1, slots := 6, locals := 174 }
set_option maxHeartbeats 4000000 in
set_option maxRecDepth 100000 in
theorem c_En_putName (l : Launch) (hfl : l.flags = pinnedFlags ++ [noTraceFlag]) (dC : Nat → ClassId) (dI : Nat → Nat → Nat) (cI cJ : ClassId) (a : Nat → Nat) (sz : Nat) (he dp co li op wd tl lc fo : Int) (sf lf nf : Nat → Int32) (x1 : Int32) (hok : okC he dp co li op wd tl lc fo sf lf nf) (hp0 : 0 ≤ x1.toInt) (hp1 : x1.toInt ≤ 65535) : tz_Met l ⟨"StoryMachine$Engine", "putName", "(I)V"⟩ tw_tbl rm_En_putName (tzP (dC, dI) vcl cI cJ (gsC a he dp co li op wd tl lc fo sf lf nf) a (adC a) [.ref (a 5), .int x1] sz) (tq_Q (q_En_putName dC dI cI cJ a he dp co li op wd tl lc fo sf lf nf x1) (ga (adC a) sz)) 0 0 1 6 (ga (adC a) sz) := by
  refine tz_ofW (cc := prog_4_method_17_code) (maxL := 3) (ret := none) (by decide) (tx_isM mw_785) ?_
  intro p e s m args below meth c s₁ B hml hv
  obtain ⟨rfl, hsz, hI0, hK, hst0⟩ := hv
  have hx := B.exec
  have hb := B.bytes
  have hr := B.returns
  have hts := atoms_spec (ws := tw_tbl) B.pre
  have hown : s.vm.findClass "StoryMachine$Engine" = some m.cls := findClass_of_methodNamed B.named
  have hlocks := B.notSynchronized
  subst hsz
  have hst := fun (H : Heap) (locs : List Loc) (hS : va_S (ga (adC a) s.heap.size) s.heap H locs) (U : State) (hU : U.heap = H) (hW : s.WarmedH U.vm) => zS_all adC_map hI0 hst0 hS hU hW
  have hAC : ∀ q ∈ adC a, ga (adC a) s.heap.size q := fun q h => Or.inl h
  have hA0 : ∀ q, s.heap.size ≤ q → ga (adC a) s.heap.size q := fun q h => Or.inr h
  have hI : sI (dC, dI) vcl cI cJ (gsC a he dp co li op wd tl lc fo sf lf nf) (ga (adC a) s.heap.size) s.heap s.heap [] := ⟨hI0, va_S.rf⟩
  clear hI0 hst0
  have hl := lv_entry ([.ref (a 5), .int x1]) (n := 3) (Nat.le_of_ble_eq_true rfl)
  rw [lg_entry_eq]
  generalize (lg_sl ([.ref (a 5), .int x1]) ++ List.replicate (3 - (lg_sl ([.ref (a 5), .int x1])).length) Slot.unset).toArray = ls at hl ⊢
  have hl : lv_has ls 3 [(0, .ref (a 5)), (1, .int x1)] := hl
  generalize hZ : tz_MQ below (tq_Q (q_En_putName dC dI cI cJ a he dp co li op wd tl lc fo sf lf nf x1) (ga (adC a) s.heap.size)) ([.ref (a 5), .int x1] : List Value).toArray s 0 0 1 6 (ga (adC a) s.heap.size) = Z
  obtain ⟨A, hAe⟩ : ∃ A, A = ga (adC a) s.heap.size := ⟨_, rfl⟩
  rw [← hAe] at hst hAC hA0 hI hZ
  refine sv_start hI (fun H locs hI => ?_)
  obtain ⟨⟨o1, o2⟩, ⟨o3, o4⟩, ⟨o5, o6⟩, ⟨o7, o8⟩, ⟨o9, o10⟩, ⟨o11, o12⟩, ⟨o13, o14⟩, ⟨o15, o16⟩, ⟨o17, o18⟩, o19, -, -⟩ := id hok
  have gx1 := sn_rng x1
  refine lv_aload_n hx hb d_En_putName_0 rfl (lv_at hl 0 rfl) ?_
  refine sv_getr (C := "StoryMachine$Engine") (T := T_En) (N := 15) hx hb hts in_En hown hK hI 5 kC_5 rfl 5 (by decide) (hts _ mw_266) rfl d_En_putName_1 ?_
  refine lv_iload_n hx hb d_En_putName_4 rfl (lv_at hl 1 rfl) ?_
  refine tz_call (A1 := ga (adC a) H.size) (tz_runV (C := "StoryMachine$Tree") (As := [.int x1]) (rest := []) ⟨hx, hb, hml, hown, hts⟩ (c_Tr_namePlace l hfl dC dI cI cJ a H.size he dp co li op wd tl lc fo sf lf nf x1 hok) (tx_cb (n := 1) hts rfl rfl ⟨Nat.le_of_ble_eq_true rfl, Nat.le_of_ble_eq_true rfl⟩ (tx_code.of (hts _ mw_789)) (hts _ mw_9) (by decide +kernel) (hts _ mw_786)) (hts _ mw_787) (hts _ mw_788) ⟨tz_blind, sv_recv (q0 := 17) hts in_Tr hK hI kC_17 rfl, fun U hU hW => ⟨rfl, by rw [hU], by rw [hU]; exact hI.1, va_K.moved hW.alike hK, hst _ _ hI.2 U hU hW⟩⟩ rfl rfl hl.1 rfl (lv_room (Nat.le_of_ble_eq_true rfl)) d_En_putName_5 ⟨Nat.le_of_ble_eq_true rfl, Nat.le_of_ble_eq_true rfl⟩) hI.2 (fun q _ h => ga_sub hAC hA0 hI.2 q h) (ga_sub hAC hA0 hI.2) (fun v t H1 locs1 ht hWt hpost _ _ hS => ?_) (fun x t H1 locs1 ht hWt hpost _ _ hS => ?_)
  · rcases hpost.1 _ rfl with ⟨z20, hv, c21, c21_0, c21_1, c21_2, c21_3, hI1⟩
    cases hv
    have hI : sI (dC, dI) vcl cI cJ (gsC a he dp co li op wd tl lc fo sf lf nf) A s.heap H1 locs1 := ⟨by rw [← ht]; exact hI1, hS⟩
    clear hpost hI1 hS ht hWt
    revert hI; generalize H1 = H; generalize locs1 = locs; intro hI
    refine lv_istore_n (lv' := [(2, .int z20), (0, .ref (a 5)), (1, .int x1)]) hx hb d_En_putName_8 rfl hl (by decide) rfl (fun ls hl => ?_)
    refine lv_aload_n hx hb d_En_putName_9 rfl (lv_at hl 1 rfl) ?_
    refine sv_getr (C := "StoryMachine$Engine") (T := T_En) (N := 15) hx hb hts in_En hown hK hI 5 kC_5 rfl 0 (by decide) (hts _ mw_261) rfl d_En_putName_10 ?_
    refine lv_iload_n hx hb d_En_putName_13 rfl (lv_at hl 0 rfl) ?_
    refine tz_call (A1 := ga (adC a) H.size) (tz_runV (C := "StoryMachine$Memory") (As := [.int z20]) (rest := []) ⟨hx, hb, hml, hown, hts⟩ (c_Me_byteAt l hfl dC dI cI cJ a H.size he dp co li op wd tl lc fo sf lf nf z20 c21) (tx_cb (n := 1) hts rfl rfl ⟨Nat.le_of_ble_eq_true rfl, Nat.le_of_ble_eq_true rfl⟩ (tx_code.of (hts _ mw_511)) (hts _ mw_2) (by decide +kernel) (hts _ mw_790)) (hts _ mw_509) (hts _ mw_510) ⟨tz_blind, sv_recv (q0 := 1) hts in_Me hK hI kC_1 rfl, fun U hU hW => ⟨rfl, by rw [hU], by rw [hU]; exact hI.1, va_K.moved hW.alike hK, hst _ _ hI.2 U hU hW⟩⟩ rfl rfl hl.1 rfl (lv_room (Nat.le_of_ble_eq_true rfl)) d_En_putName_14 ⟨Nat.le_of_ble_eq_true rfl, Nat.le_of_ble_eq_true rfl⟩) hI.2 (fun q _ h => ga_sub hAC hA0 hI.2 q h) (ga_sub hAC hA0 hI.2) (fun v t H1 locs1 ht hWt hpost _ _ hS => ?_) (fun x t H1 locs1 ht hWt hpost _ _ hS => ?_)
    · rcases hpost.1 _ rfl with ⟨z22, hv, c23, c23_0, c23_1, c23_2, c23_3, hI1⟩
      cases hv
      have hI : sI (dC, dI) vcl cI cJ (gsC a he dp co li op wd tl lc fo sf lf nf) A s.heap H1 locs1 := ⟨by rw [← ht]; exact hI1, hS⟩
      clear hpost hI1 hS ht hWt
      revert hI; generalize H1 = H; generalize locs1 = locs; intro hI
      refine sn_if_le (tgt := 31) hx hb d_En_putName_17 (by decide) (fun b24 => ?_) (fun b24 => ?_)
      · subst hZ
        exact tz_ret (W.vret hx hb hr (fun t ht hW => ⟨⟨fun v9 hv9 => by cases hv9; exact (⟨rfl, c23, by omega, by omega, by rw [ht]; exact hI.1⟩), fun x9 hx9 => (by cases hx9)⟩, hI.2.F ht⟩) hI.2.2.2 d_En_putName_31)
      · refine lv_aload_n hx hb d_En_putName_20 rfl (lv_at hl 1 rfl) ?_
        refine sv_getr (C := "StoryMachine$Engine") (T := T_En) (N := 15) hx hb hts in_En hown hK hI 5 kC_5 rfl 3 (by decide) (hts _ mw_264) rfl d_En_putName_21 ?_
        refine lv_iload_n hx hb d_En_putName_24 rfl (lv_at hl 0 rfl) ?_
        refine sn_iconst hx hb d_En_putName_25 (by decide) (fun z25 hz25 => ?_)
        refine sn_iadd hx hb d_En_putName_26 (by omega) (by omega) (fun z26 hz26 => ?_)
        refine tz_call (A1 := ga (adC a) H.size) (tz_runV (C := "StoryMachine$Printer") (As := [.int z26]) (rest := []) ⟨hx, hb, hml, hown, hts⟩ (c_Pr_putText l hfl dC dI cI cJ a H.size he dp co li op wd tl lc fo sf lf nf z26 c23) (tx_cb (n := 1) hts rfl rfl ⟨Nat.le_of_ble_eq_true rfl, Nat.le_of_ble_eq_true rfl⟩ (tx_code.of (hts _ mw_644)) (hts _ mw_5) (by decide +kernel) (hts _ mw_641)) (hts _ mw_642) (hts _ mw_643) ⟨tz_blind, sv_recv (q0 := 4) hts in_Pr hK hI kC_4 rfl, fun U hU hW => ⟨rfl, by rw [hU], by rw [hU]; exact hI.1, va_K.moved hW.alike hK, hst _ _ hI.2 U hU hW⟩⟩ rfl rfl hl.1 rfl (lv_room (Nat.le_of_ble_eq_true rfl)) d_En_putName_27 ⟨Nat.le_of_ble_eq_true rfl, Nat.le_of_ble_eq_true rfl⟩) hI.2 (fun q _ h => ga_sub hAC hA0 hI.2 q h) (ga_sub hAC hA0 hI.2) (fun v t H1 locs1 ht hWt hpost _ _ hS => ?_) (fun x t H1 locs1 ht hWt hpost _ _ hS => ?_)
        · rcases hpost.1 _ rfl with ⟨z27, hv, c28, c28_0, c28_1, hI1⟩
          cases hv
          have hI : sI (dC, dI) vcl cI cJ (gsC a he dp co li op wd tl lc fo sf lf nf) A s.heap H1 locs1 := ⟨by rw [← ht]; exact hI1, hS⟩
          clear hpost hI1 hS ht hWt
          revert hI; generalize H1 = H; generalize locs1 = locs; intro hI
          refine lv_pop hx hb d_En_putName_30 rfl ?_
          subst hZ
          exact tz_ret (W.vret hx hb hr (fun t ht hW => ⟨⟨fun v9 hv9 => by cases hv9; exact (⟨rfl, c28, by omega, by omega, by rw [ht]; exact hI.1⟩), fun x9 hx9 => (by cases hx9)⟩, hI.2.F ht⟩) hI.2.2.2 d_En_putName_31)
        · rcases hpost.2 _ rfl with ⟨hex, c29, hI1⟩
          have hI : sI (dC, dI) vcl cI cJ (gsC a he dp co li op wd tl lc fo sf lf nf) A s.heap H1 locs1 := ⟨by rw [← ht]; exact hI1, hS⟩
          refine tz_widen (k := 1) (n := 6) (Nat.le_of_ble_eq_true rfl) (Nat.le_of_ble_eq_true rfl) ?_
          subst hZ
          exact tz_leave (tx_noH B (hts _ mw_785) _) (fun t9 ht9 hW9 => ⟨⟨fun v9 hv9 => (by cases hv9), fun x9 hx9 => by cases hx9; exact (⟨ta_exm hex ht ht9 hWt hW9, c29, by rw [ht9]; exact hI.1⟩)⟩, hI.2.F ht9⟩) hI.2.2.2 hlocks
    · rcases hpost.2 _ rfl with ⟨hex, c30, hI1⟩
      have hI : sI (dC, dI) vcl cI cJ (gsC a he dp co li op wd tl lc fo sf lf nf) A s.heap H1 locs1 := ⟨by rw [← ht]; exact hI1, hS⟩
      refine tz_widen (k := 1) (n := 6) (Nat.le_of_ble_eq_true rfl) (Nat.le_of_ble_eq_true rfl) ?_
      subst hZ
      exact tz_leave (tx_noH B (hts _ mw_785) _) (fun t9 ht9 hW9 => ⟨⟨fun v9 hv9 => (by cases hv9), fun x9 hx9 => by cases hx9; exact (⟨ta_exm hex ht ht9 hWt hW9, c30, by rw [ht9]; exact hI.1⟩)⟩, hI.2.F ht9⟩) hI.2.2.2 hlocks
  · rcases hpost.2 _ rfl with ⟨hex, c31, hI1⟩
    have hI : sI (dC, dI) vcl cI cJ (gsC a he dp co li op wd tl lc fo sf lf nf) A s.heap H1 locs1 := ⟨by rw [← ht]; exact hI1, hS⟩
    refine tz_widen (k := 1) (n := 6) (Nat.le_of_ble_eq_true rfl) (Nat.le_of_ble_eq_true rfl) ?_
    subst hZ
    exact tz_leave (tx_noH B (hts _ mw_785) _) (fun t9 ht9 hW9 => ⟨⟨fun v9 hv9 => (by cases hv9), fun x9 hx9 => by cases hx9; exact (⟨ta_exm hex ht ht9 hWt hW9, c31, by rw [ht9]; exact hI.1⟩)⟩, hI.2.F ht9⟩) hI.2.2.2 hlocks
abbrev q_En_firstValue (dC : Nat → ClassId) (dI : Nat → Nat → Nat) (cI cJ : ClassId) (a : Nat → Nat) (he dp co li op wd tl lc fo : Int) (sf lf nf : Nat → Int32) (x1 : Int32) : Outcome → State → Prop := fun o t => (∀ v, o = .returned v → ((∃ (z : Int32) (he_ : Int), v = some (.int z) ∧ okC he_ dp co li op wd tl lc fo sf lf nf ∧ ((-2147483648) ≤ z.toInt) ∧ (z.toInt ≤ 2147483647) ∧ sh_I (dC, dI) vcl cI cJ (gsC a he_ dp co li op wd tl lc fo sf lf nf) t.heap))) ∧ (∀ x, o = .threw x → ((ta_Ex "java/lang/IllegalArgumentException" x t ∧ okC he dp co li op wd tl lc fo sf lf nf ∧ (1 ≤ op) ∧ (op ≤ 14) ∧ sh_I (dC, dI) vcl cI cJ (gsC a he dp co li op wd tl lc fo sf lf nf) t.heap) ∨ (ta_Ex "java/lang/IllegalStateException" x t ∧ okC he dp co li op wd tl lc fo sf lf nf ∧ (x1.toInt ≤ 0) ∧ (14 ≤ op) ∧ (op ≤ 14) ∧ sh_I (dC, dI) vcl cI cJ (gsC a he dp co li op wd tl lc fo sf lf nf) t.heap)))
def rm_En_firstValue : Room := { frames := 10, cells := 1, slots := 6, locals := 193 }
set_option maxHeartbeats 4000000 in
set_option maxRecDepth 100000 in
theorem c_En_firstValue (l : Launch) (hfl : l.flags = pinnedFlags ++ [noTraceFlag]) (dC : Nat → ClassId) (dI : Nat → Nat → Nat) (cI cJ : ClassId) (a : Nat → Nat) (sz : Nat) (he dp co li op wd tl lc fo : Int) (sf lf nf : Nat → Int32) (x1 : Int32) (hok : okC he dp co li op wd tl lc fo sf lf nf) (hp0 : 0 ≤ x1.toInt) (hp1 : x1.toInt ≤ 65535) : tz_Met l ⟨"StoryMachine$Engine", "firstValue", "(I)I"⟩ tw_tbl rm_En_firstValue (tzP (dC, dI) vcl cI cJ (gsC a he dp co li op wd tl lc fo sf lf nf) a (adC a) [.ref (a 5), .int x1] sz) (tq_Q (q_En_firstValue dC dI cI cJ a he dp co li op wd tl lc fo sf lf nf x1) (ga (adC a) sz)) 0 0 1 6 (ga (adC a) sz) := by
  refine tz_ofW (cc := prog_4_method_6_code) (maxL := 2) (ret := (some .int)) (by decide) (tx_isM mw_736) ?_
  intro p e s m args below meth c s₁ B hml hv
  obtain ⟨rfl, hsz, hI0, hK, hst0⟩ := hv
  have hx := B.exec
  have hb := B.bytes
  have hr := B.returns
  have hts := atoms_spec (ws := tw_tbl) B.pre
  have hown : s.vm.findClass "StoryMachine$Engine" = some m.cls := findClass_of_methodNamed B.named
  have hlocks := B.notSynchronized
  subst hsz
  have hst := fun (H : Heap) (locs : List Loc) (hS : va_S (ga (adC a) s.heap.size) s.heap H locs) (U : State) (hU : U.heap = H) (hW : s.WarmedH U.vm) => zS_all adC_map hI0 hst0 hS hU hW
  have hAC : ∀ q ∈ adC a, ga (adC a) s.heap.size q := fun q h => Or.inl h
  have hA0 : ∀ q, s.heap.size ≤ q → ga (adC a) s.heap.size q := fun q h => Or.inr h
  have hI : sI (dC, dI) vcl cI cJ (gsC a he dp co li op wd tl lc fo sf lf nf) (ga (adC a) s.heap.size) s.heap s.heap [] := ⟨hI0, va_S.rf⟩
  clear hI0 hst0
  have hl := lv_entry ([.ref (a 5), .int x1]) (n := 2) (Nat.le_of_ble_eq_true rfl)
  rw [lg_entry_eq]
  generalize (lg_sl ([.ref (a 5), .int x1]) ++ List.replicate (2 - (lg_sl ([.ref (a 5), .int x1])).length) Slot.unset).toArray = ls at hl ⊢
  have hl : lv_has ls 2 [(0, .ref (a 5)), (1, .int x1)] := hl
  generalize hZ : tz_MQ below (tq_Q (q_En_firstValue dC dI cI cJ a he dp co li op wd tl lc fo sf lf nf x1) (ga (adC a) s.heap.size)) ([.ref (a 5), .int x1] : List Value).toArray s 0 0 1 6 (ga (adC a) s.heap.size) = Z
  obtain ⟨A, hAe⟩ : ∃ A, A = ga (adC a) s.heap.size := ⟨_, rfl⟩
  rw [← hAe] at hst hAC hA0 hI hZ
  refine sv_start hI (fun H locs hI => ?_)
  obtain ⟨⟨o1, o2⟩, ⟨o3, o4⟩, ⟨o5, o6⟩, ⟨o7, o8⟩, ⟨o9, o10⟩, ⟨o11, o12⟩, ⟨o13, o14⟩, ⟨o15, o16⟩, ⟨o17, o18⟩, o19, -, -⟩ := id hok
  have gx1 := sn_rng x1
  refine lv_aload_n hx hb d_En_firstValue_0 rfl (lv_at hl 0 rfl) ?_
  refine sv_getr (C := "StoryMachine$Engine") (T := T_En) (N := 15) hx hb hts in_En hown hK hI 5 kC_5 rfl 7 (by decide) (hts _ mw_268) rfl d_En_firstValue_1 ?_
  refine sv_gete (C := "StoryMachine$Instruction") (T := T_In) (N := 11) hx hb hts in_In hown hK hI 19 kC_19 rfl 5 (by decide) (hts _ mw_227) rfl d_En_firstValue_4 (fun z20 hz20 => ?_)
  have w21 : W p l e (headSpec tw_tbl rm_En_firstValue).room s m ([.ref (a 5), .int x1] : List Value).toArray below meth c H locs 0 0 Z (F0 m 122 ls []) := by
    refine lv_iload_n hx hb d_En_firstValue_122 rfl (lv_at hl 1 rfl) ?_
    refine sn_iconst hx hb d_En_firstValue_123 (by decide) (fun z22 hz22 => ?_)
    refine sn_ixorT hx hb d_En_firstValue_124 (fun z23 hz23a hz23b => ?_)
    subst hZ
    exact tz_ret (W.iret (v := z23) hx hb hr (fun t ht hW => ⟨⟨fun v9 hv9 => by cases hv9; exact (⟨z23, he, rfl, hok, by omega, by omega, by rw [ht]; exact hI.1⟩), fun x9 hx9 => (by cases hx9)⟩, hI.2.F ht⟩) hI.2.2.2 d_En_firstValue_125)
  by_cases b24 : z20.toInt = 1
  · refine sn_tin (v := 1) (off := 69) (tgt := 76) hx hb d_En_firstValue_7 b24 (by decide) (by decide) (by decide) (by decide) ?_
    refine lv_aload_n hx hb d_En_firstValue_76 rfl (lv_at hl 0 rfl) ?_
    refine sv_getr (C := "StoryMachine$Engine") (T := T_En) (N := 15) hx hb hts in_En hown hK hI 5 kC_5 rfl 5 (by decide) (hts _ mw_266) rfl d_En_firstValue_77 ?_
    refine lv_iload_n hx hb d_En_firstValue_80 rfl (lv_at hl 1 rfl) ?_
    refine tz_call (A1 := ga (adC a) H.size) (tz_runV (C := "StoryMachine$Tree") (As := [.int x1]) (rest := []) ⟨hx, hb, hml, hown, hts⟩ (c_Tr_sibling l hfl dC dI cI cJ a H.size he dp co li op wd tl lc fo sf lf nf x1 hok) (tx_cb (n := 1) hts rfl rfl ⟨Nat.le_of_ble_eq_true rfl, Nat.le_of_ble_eq_true rfl⟩ (tx_code.of (hts _ mw_740)) (hts _ mw_9) (by decide +kernel) (hts _ mw_737)) (hts _ mw_738) (hts _ mw_739) ⟨tz_blind, sv_recv (q0 := 17) hts in_Tr hK hI kC_17 rfl, fun U hU hW => ⟨rfl, by rw [hU], by rw [hU]; exact hI.1, va_K.moved hW.alike hK, hst _ _ hI.2 U hU hW⟩⟩ rfl rfl hl.1 rfl (lv_room (Nat.le_of_ble_eq_true rfl)) d_En_firstValue_81 ⟨Nat.le_of_ble_eq_true rfl, Nat.le_of_ble_eq_true rfl⟩) hI.2 (fun q _ h => ga_sub hAC hA0 hI.2 q h) (ga_sub hAC hA0 hI.2) (fun v t H1 locs1 ht hWt hpost _ _ hS => ?_) (fun x t H1 locs1 ht hWt hpost _ _ hS => ?_)
    · rcases hpost.1 _ rfl with ⟨z25, hv, c26, c26_0, c26_1, c26_2, c26_3, hI1⟩
      cases hv
      have hI : sI (dC, dI) vcl cI cJ (gsC a he dp co li op wd tl lc fo sf lf nf) A s.heap H1 locs1 := ⟨by rw [← ht]; exact hI1, hS⟩
      clear hpost hI1 hS ht hWt
      revert hI; generalize H1 = H; generalize locs1 = locs; intro hI
      subst hZ
      exact tz_ret (W.iret (v := z25) hx hb hr (fun t ht hW => ⟨⟨fun v9 hv9 => by cases hv9; exact (⟨z25, he, rfl, c26, by omega, by omega, by rw [ht]; exact hI.1⟩), fun x9 hx9 => (by cases hx9)⟩, hI.2.F ht⟩) hI.2.2.2 d_En_firstValue_84)
    · rcases hpost.2 _ rfl with ⟨hex, c27, hI1⟩
      have hI : sI (dC, dI) vcl cI cJ (gsC a he dp co li op wd tl lc fo sf lf nf) A s.heap H1 locs1 := ⟨by rw [← ht]; exact hI1, hS⟩
      refine tz_widen (k := 1) (n := 6) (Nat.le_of_ble_eq_true rfl) (Nat.le_of_ble_eq_true rfl) ?_
      subst hZ
      exact tz_leave (tx_noH B (hts _ mw_736) _) (fun t9 ht9 hW9 => ⟨⟨fun v9 hv9 => (by cases hv9), fun x9 hx9 => by cases hx9; exact (Or.inl ⟨ta_exm hex ht ht9 hWt hW9, c27, by omega, by omega, by rw [ht9]; exact hI.1⟩)⟩, hI.2.F ht9⟩) hI.2.2.2 hlocks
  by_cases b28 : z20.toInt = 2
  · refine sn_tin (v := 2) (off := 78) (tgt := 85) hx hb d_En_firstValue_7 b28 (by decide) (by decide) (by decide) (by decide) ?_
    refine lv_aload_n hx hb d_En_firstValue_85 rfl (lv_at hl 0 rfl) ?_
    refine sv_getr (C := "StoryMachine$Engine") (T := T_En) (N := 15) hx hb hts in_En hown hK hI 5 kC_5 rfl 5 (by decide) (hts _ mw_266) rfl d_En_firstValue_86 ?_
    refine lv_iload_n hx hb d_En_firstValue_89 rfl (lv_at hl 1 rfl) ?_
    refine tz_call (A1 := ga (adC a) H.size) (tz_runV (C := "StoryMachine$Tree") (As := [.int x1]) (rest := []) ⟨hx, hb, hml, hown, hts⟩ (c_Tr_child l hfl dC dI cI cJ a H.size he dp co li op wd tl lc fo sf lf nf x1 hok) (tx_cb (n := 1) hts rfl rfl ⟨Nat.le_of_ble_eq_true rfl, Nat.le_of_ble_eq_true rfl⟩ (tx_code.of (hts _ mw_752)) (hts _ mw_9) (by decide +kernel) (hts _ mw_749)) (hts _ mw_750) (hts _ mw_751) ⟨tz_blind, sv_recv (q0 := 17) hts in_Tr hK hI kC_17 rfl, fun U hU hW => ⟨rfl, by rw [hU], by rw [hU]; exact hI.1, va_K.moved hW.alike hK, hst _ _ hI.2 U hU hW⟩⟩ rfl rfl hl.1 rfl (lv_room (Nat.le_of_ble_eq_true rfl)) d_En_firstValue_90 ⟨Nat.le_of_ble_eq_true rfl, Nat.le_of_ble_eq_true rfl⟩) hI.2 (fun q _ h => ga_sub hAC hA0 hI.2 q h) (ga_sub hAC hA0 hI.2) (fun v t H1 locs1 ht hWt hpost _ _ hS => ?_) (fun x t H1 locs1 ht hWt hpost _ _ hS => ?_)
    · rcases hpost.1 _ rfl with ⟨z29, hv, c30, c30_0, c30_1, c30_2, c30_3, hI1⟩
      cases hv
      have hI : sI (dC, dI) vcl cI cJ (gsC a he dp co li op wd tl lc fo sf lf nf) A s.heap H1 locs1 := ⟨by rw [← ht]; exact hI1, hS⟩
      clear hpost hI1 hS ht hWt
      revert hI; generalize H1 = H; generalize locs1 = locs; intro hI
      subst hZ
      exact tz_ret (W.iret (v := z29) hx hb hr (fun t ht hW => ⟨⟨fun v9 hv9 => by cases hv9; exact (⟨z29, he, rfl, c30, by omega, by omega, by rw [ht]; exact hI.1⟩), fun x9 hx9 => (by cases hx9)⟩, hI.2.F ht⟩) hI.2.2.2 d_En_firstValue_93)
    · rcases hpost.2 _ rfl with ⟨hex, c31, hI1⟩
      have hI : sI (dC, dI) vcl cI cJ (gsC a he dp co li op wd tl lc fo sf lf nf) A s.heap H1 locs1 := ⟨by rw [← ht]; exact hI1, hS⟩
      refine tz_widen (k := 1) (n := 6) (Nat.le_of_ble_eq_true rfl) (Nat.le_of_ble_eq_true rfl) ?_
      subst hZ
      exact tz_leave (tx_noH B (hts _ mw_736) _) (fun t9 ht9 hW9 => ⟨⟨fun v9 hv9 => (by cases hv9), fun x9 hx9 => by cases hx9; exact (Or.inl ⟨ta_exm hex ht ht9 hWt hW9, c31, by omega, by omega, by rw [ht9]; exact hI.1⟩)⟩, hI.2.F ht9⟩) hI.2.2.2 hlocks
  by_cases b32 : z20.toInt = 3
  · refine sn_tin (v := 3) (off := 87) (tgt := 94) hx hb d_En_firstValue_7 b32 (by decide) (by decide) (by decide) (by decide) ?_
    refine lv_aload_n hx hb d_En_firstValue_94 rfl (lv_at hl 0 rfl) ?_
    refine sv_getr (C := "StoryMachine$Engine") (T := T_En) (N := 15) hx hb hts in_En hown hK hI 5 kC_5 rfl 5 (by decide) (hts _ mw_266) rfl d_En_firstValue_95 ?_
    refine lv_iload_n hx hb d_En_firstValue_98 rfl (lv_at hl 1 rfl) ?_
    refine tz_call (A1 := ga (adC a) H.size) (tz_runV (C := "StoryMachine$Tree") (As := [.int x1]) (rest := []) ⟨hx, hb, hml, hown, hts⟩ (c_Tr_parent l hfl dC dI cI cJ a H.size he dp co li op wd tl lc fo sf lf nf x1 hok) (tx_cb (n := 1) hts rfl rfl ⟨Nat.le_of_ble_eq_true rfl, Nat.le_of_ble_eq_true rfl⟩ (tx_code.of (hts _ mw_756)) (hts _ mw_9) (by decide +kernel) (hts _ mw_753)) (hts _ mw_754) (hts _ mw_755) ⟨tz_blind, sv_recv (q0 := 17) hts in_Tr hK hI kC_17 rfl, fun U hU hW => ⟨rfl, by rw [hU], by rw [hU]; exact hI.1, va_K.moved hW.alike hK, hst _ _ hI.2 U hU hW⟩⟩ rfl rfl hl.1 rfl (lv_room (Nat.le_of_ble_eq_true rfl)) d_En_firstValue_99 ⟨Nat.le_of_ble_eq_true rfl, Nat.le_of_ble_eq_true rfl⟩) hI.2 (fun q _ h => ga_sub hAC hA0 hI.2 q h) (ga_sub hAC hA0 hI.2) (fun v t H1 locs1 ht hWt hpost _ _ hS => ?_) (fun x t H1 locs1 ht hWt hpost _ _ hS => ?_)
    · rcases hpost.1 _ rfl with ⟨z33, hv, c34, c34_0, c34_1, c34_2, c34_3, hI1⟩
      cases hv
      have hI : sI (dC, dI) vcl cI cJ (gsC a he dp co li op wd tl lc fo sf lf nf) A s.heap H1 locs1 := ⟨by rw [← ht]; exact hI1, hS⟩
      clear hpost hI1 hS ht hWt
      revert hI; generalize H1 = H; generalize locs1 = locs; intro hI
      subst hZ
      exact tz_ret (W.iret (v := z33) hx hb hr (fun t ht hW => ⟨⟨fun v9 hv9 => by cases hv9; exact (⟨z33, he, rfl, c34, by omega, by omega, by rw [ht]; exact hI.1⟩), fun x9 hx9 => (by cases hx9)⟩, hI.2.F ht⟩) hI.2.2.2 d_En_firstValue_102)
    · rcases hpost.2 _ rfl with ⟨hex, c35, hI1⟩
      have hI : sI (dC, dI) vcl cI cJ (gsC a he dp co li op wd tl lc fo sf lf nf) A s.heap H1 locs1 := ⟨by rw [← ht]; exact hI1, hS⟩
      refine tz_widen (k := 1) (n := 6) (Nat.le_of_ble_eq_true rfl) (Nat.le_of_ble_eq_true rfl) ?_
      subst hZ
      exact tz_leave (tx_noH B (hts _ mw_736) _) (fun t9 ht9 hW9 => ⟨⟨fun v9 hv9 => (by cases hv9), fun x9 hx9 => by cases hx9; exact (Or.inl ⟨ta_exm hex ht ht9 hWt hW9, c35, by omega, by omega, by rw [ht9]; exact hI.1⟩)⟩, hI.2.F ht9⟩) hI.2.2.2 hlocks
  by_cases b36 : z20.toInt = 4
  · refine sn_tin (v := 4) (off := 96) (tgt := 103) hx hb d_En_firstValue_7 b36 (by decide) (by decide) (by decide) (by decide) ?_
    refine lv_aload_n hx hb d_En_firstValue_103 rfl (lv_at hl 0 rfl) ?_
    refine sv_getr (C := "StoryMachine$Engine") (T := T_En) (N := 15) hx hb hts in_En hown hK hI 5 kC_5 rfl 5 (by decide) (hts _ mw_266) rfl d_En_firstValue_104 ?_
    refine lv_iload_n hx hb d_En_firstValue_107 rfl (lv_at hl 1 rfl) ?_
    refine tz_call (A1 := ga (adC a) H.size) (tz_runV (C := "StoryMachine$Tree") (As := [.int x1]) (rest := []) ⟨hx, hb, hml, hown, hts⟩ (c_Tr_propertyLength l hfl dC dI cI cJ a H.size he dp co li op wd tl lc fo sf lf nf x1 hok) (tx_cb (n := 1) hts rfl rfl ⟨Nat.le_of_ble_eq_true rfl, Nat.le_of_ble_eq_true rfl⟩ (tx_code.of (hts _ mw_760)) (hts _ mw_9) (by decide +kernel) (hts _ mw_757)) (hts _ mw_758) (hts _ mw_759) ⟨tz_blind, sv_recv (q0 := 17) hts in_Tr hK hI kC_17 rfl, fun U hU hW => ⟨rfl, by rw [hU], by rw [hU]; exact hI.1, va_K.moved hW.alike hK, hst _ _ hI.2 U hU hW⟩⟩ rfl rfl hl.1 rfl (lv_room (Nat.le_of_ble_eq_true rfl)) d_En_firstValue_108 ⟨Nat.le_of_ble_eq_true rfl, Nat.le_of_ble_eq_true rfl⟩) hI.2 (fun q _ h => ga_sub hAC hA0 hI.2 q h) (ga_sub hAC hA0 hI.2) (fun v t H1 locs1 ht hWt hpost _ _ hS => ?_) (fun x t H1 locs1 ht hWt hpost _ _ hS => ?_)
    · rcases hpost.1 _ rfl with ⟨z37, hv, c38, c38_0, c38_1, hI1⟩
      cases hv
      have hI : sI (dC, dI) vcl cI cJ (gsC a he dp co li op wd tl lc fo sf lf nf) A s.heap H1 locs1 := ⟨by rw [← ht]; exact hI1, hS⟩
      clear hpost hI1 hS ht hWt
      revert hI; generalize H1 = H; generalize locs1 = locs; intro hI
      subst hZ
      exact tz_ret (W.iret (v := z37) hx hb hr (fun t ht hW => ⟨⟨fun v9 hv9 => by cases hv9; exact (⟨z37, he, rfl, c38, by omega, by omega, by rw [ht]; exact hI.1⟩), fun x9 hx9 => (by cases hx9)⟩, hI.2.F ht⟩) hI.2.2.2 d_En_firstValue_111)
    · rcases hpost.2 _ rfl with ⟨hex, c39, hI1⟩
      have hI : sI (dC, dI) vcl cI cJ (gsC a he dp co li op wd tl lc fo sf lf nf) A s.heap H1 locs1 := ⟨by rw [← ht]; exact hI1, hS⟩
      refine tz_widen (k := 1) (n := 6) (Nat.le_of_ble_eq_true rfl) (Nat.le_of_ble_eq_true rfl) ?_
      subst hZ
      exact tz_leave (tx_noH B (hts _ mw_736) _) (fun t9 ht9 hW9 => ⟨⟨fun v9 hv9 => (by cases hv9), fun x9 hx9 => by cases hx9; exact (Or.inl ⟨ta_exm hex ht ht9 hWt hW9, c39, by omega, by omega, by rw [ht9]; exact hI.1⟩)⟩, hI.2.F ht9⟩) hI.2.2.2 hlocks
  by_cases b40 : z20.toInt = 14
  · refine sn_tin (v := 14) (off := 105) (tgt := 112) hx hb d_En_firstValue_7 b40 (by decide) (by decide) (by decide) (by decide) ?_
    refine lv_aload_n hx hb d_En_firstValue_112 rfl (lv_at hl 0 rfl) ?_
    refine sv_getr (C := "StoryMachine$Engine") (T := T_En) (N := 15) hx hb hts in_En hown hK hI 5 kC_5 rfl 4 (by decide) (hts _ mw_265) rfl d_En_firstValue_113 ?_
    refine lv_iload_n hx hb d_En_firstValue_116 rfl (lv_at hl 1 rfl) ?_
    refine sn_iconst hx hb d_En_firstValue_117 (by decide) (fun z41 hz41 => ?_)
    refine tz_call (A1 := ga (adC a) H.size) (tz_runV (C := "StoryMachine$Variables") (As := [.int x1, .int z41]) (rest := []) ⟨hx, hb, hml, hown, hts⟩ (c_Va_read l hfl dC dI cI cJ a H.size he dp co li op wd tl lc fo sf lf nf x1 z41 hok) (tx_cb (n := 2) hts rfl rfl ⟨Nat.le_of_ble_eq_true rfl, Nat.le_of_ble_eq_true rfl⟩ (tx_code.of (hts _ mw_538)) (hts _ mw_8) (by decide +kernel) (hts _ mw_764)) (hts _ mw_536) (hts _ mw_537) ⟨tz_blind, sv_recv (q0 := 16) hts in_Va hK hI kC_16 rfl, fun U hU hW => ⟨rfl, by rw [hU], by rw [hU]; exact hI.1, va_K.moved hW.alike hK, hst _ _ hI.2 U hU hW⟩⟩ rfl rfl hl.1 rfl (lv_room (Nat.le_of_ble_eq_true rfl)) d_En_firstValue_118 ⟨Nat.le_of_ble_eq_true rfl, Nat.le_of_ble_eq_true rfl⟩) hI.2 (fun q _ h => ga_sub hAC hA0 hI.2 q h) (ga_sub hAC hA0 hI.2) (fun v t H1 locs1 ht hWt hpost _ _ hS => ?_) (fun x t H1 locs1 ht hWt hpost _ _ hS => ?_)
    · rcases hpost.1 _ rfl with ⟨z42, t_he43, hv, c44, c44_0, c44_1, c44_2, c44_3, hI1⟩
      cases hv
      have hI : sI (dC, dI) vcl cI cJ (gsC a t_he43 dp co li op wd tl lc fo sf lf nf) A s.heap H1 locs1 := ⟨by rw [← ht]; exact hI1, hS⟩
      obtain ⟨⟨o45, o46⟩, -, -, -, -, -, -, -, -, -, -, -⟩ := id c44
      clear hpost hI1 hS ht hWt
      revert hI; generalize H1 = H; generalize locs1 = locs; intro hI
      subst hZ
      exact tz_ret (W.iret (v := z42) hx hb hr (fun t ht hW => ⟨⟨fun v9 hv9 => by cases hv9; exact (⟨z42, t_he43, rfl, c44, by omega, by omega, by rw [ht]; exact hI.1⟩), fun x9 hx9 => (by cases hx9)⟩, hI.2.F ht⟩) hI.2.2.2 d_En_firstValue_121)
    · rcases hpost.2 _ rfl with ⟨hex, c47, hI1⟩ | ⟨hex, c48, c48_0, c48_1, hI1⟩
      · have hI : sI (dC, dI) vcl cI cJ (gsC a he dp co li op wd tl lc fo sf lf nf) A s.heap H1 locs1 := ⟨by rw [← ht]; exact hI1, hS⟩
        refine tz_widen (k := 1) (n := 6) (Nat.le_of_ble_eq_true rfl) (Nat.le_of_ble_eq_true rfl) ?_
        subst hZ
        exact tz_leave (tx_noH B (hts _ mw_736) _) (fun t9 ht9 hW9 => ⟨⟨fun v9 hv9 => (by cases hv9), fun x9 hx9 => by cases hx9; exact (Or.inl ⟨ta_exm hex ht ht9 hWt hW9, c47, by omega, by omega, by rw [ht9]; exact hI.1⟩)⟩, hI.2.F ht9⟩) hI.2.2.2 hlocks
      · have hI : sI (dC, dI) vcl cI cJ (gsC a he dp co li op wd tl lc fo sf lf nf) A s.heap H1 locs1 := ⟨by rw [← ht]; exact hI1, hS⟩
        refine tz_widen (k := 1) (n := 6) (Nat.le_of_ble_eq_true rfl) (Nat.le_of_ble_eq_true rfl) ?_
        subst hZ
        exact tz_leave (tx_noH B (hts _ mw_736) _) (fun t9 ht9 hW9 => ⟨⟨fun v9 hv9 => (by cases hv9), fun x9 hx9 => by cases hx9; exact (Or.inr (⟨ta_exm hex ht ht9 hWt hW9, c48, by omega, by omega, by omega, by rw [ht9]; exact hI.1⟩))⟩, hI.2.F ht9⟩) hI.2.2.2 hlocks
  by_cases b49 : z20.toInt = 5
  · exact sn_tin (v := 5) (off := 115) (tgt := 122) hx hb d_En_firstValue_7 b49 (by decide) (by decide) (by decide) (by decide) w21
  by_cases b50 : z20.toInt = 6
  · exact sn_tin (v := 6) (off := 115) (tgt := 122) hx hb d_En_firstValue_7 b50 (by decide) (by decide) (by decide) (by decide) w21
  by_cases b51 : z20.toInt = 7
  · exact sn_tin (v := 7) (off := 115) (tgt := 122) hx hb d_En_firstValue_7 b51 (by decide) (by decide) (by decide) (by decide) w21
  by_cases b52 : z20.toInt = 8
  · exact sn_tin (v := 8) (off := 115) (tgt := 122) hx hb d_En_firstValue_7 b52 (by decide) (by decide) (by decide) (by decide) w21
  by_cases b53 : z20.toInt = 9
  · exact sn_tin (v := 9) (off := 115) (tgt := 122) hx hb d_En_firstValue_7 b53 (by decide) (by decide) (by decide) (by decide) w21
  by_cases b54 : z20.toInt = 10
  · exact sn_tin (v := 10) (off := 115) (tgt := 122) hx hb d_En_firstValue_7 b54 (by decide) (by decide) (by decide) (by decide) w21
  by_cases b55 : z20.toInt = 11
  · exact sn_tin (v := 11) (off := 115) (tgt := 122) hx hb d_En_firstValue_7 b55 (by decide) (by decide) (by decide) (by decide) w21
  by_cases b56 : z20.toInt = 12
  · exact sn_tin (v := 12) (off := 115) (tgt := 122) hx hb d_En_firstValue_7 b56 (by decide) (by decide) (by decide) (by decide) w21
  by_cases b57 : z20.toInt = 13
  · exact sn_tin (v := 13) (off := 115) (tgt := 122) hx hb d_En_firstValue_7 b57 (by decide) (by decide) (by decide) (by decide) w21
  exact lv_tableOut (tgt := 122) hx hb d_En_firstValue_7 (by omega) (by decide) w21
