abbrev q_En_secondValue (dC : Nat → ClassId) (dI : Nat → Nat → Nat) (cI cJ : ClassId) (a : Nat → Nat) (he dp co li op wd tl lc fo : Int) (sf lf nf : Nat → Int32) (x1 : Int32) (x2 : Int32) : Outcome → State → Prop := fun o t => (∀ v, o = .returned v → ((∃ (z : Int32), v = some (.int z) ∧ okC he dp co li op wd tl lc fo sf lf nf ∧ ((-2147483648) ≤ z.toInt) ∧ (z.toInt ≤ 2147483647) ∧ sh_I (dC, dI) vcl cI cJ (gsC a he dp co li op wd tl lc fo sf lf nf) t.heap))) ∧ (∀ x, o = .threw x → ((ta_Ex "java/lang/ArithmeticException" x t ∧ okC he dp co li op wd tl lc fo sf lf nf ∧ (x2.toInt ≤ 0) ∧ sh_I (dC, dI) vcl cI cJ (gsC a he dp co li op wd tl lc fo sf lf nf) t.heap) ∨ (ta_Ex "java/lang/IllegalArgumentException" x t ∧ okC he dp co li op wd tl lc fo sf lf nf ∧ (15 ≤ op) ∧ (op ≤ 19) ∧ sh_I (dC, dI) vcl cI cJ (gsC a he dp co li op wd tl lc fo sf lf nf) t.heap)))
def rm_En_secondValue : Room := { frames := 10, cells := 1, slots := 6, locals := 200 }
set_option maxHeartbeats 4000000 in
set_option maxRecDepth 100000 in
theorem c_En_secondValue (l : Launch) (hfl : l.flags = pinnedFlags ++ [noTraceFlag]) (dC : Nat → ClassId) (dI : Nat → Nat → Nat) (cI cJ : ClassId) (a : Nat → Nat) (sz : Nat) (he dp co li op wd tl lc fo : Int) (sf lf nf : Nat → Int32) (x1 : Int32) (x2 : Int32) (hok : okC he dp co li op wd tl lc fo sf lf nf) (hp0 : 0 ≤ x1.toInt) (hp1 : x1.toInt ≤ 65535) (hp2 : 0 ≤ x2.toInt) (hp3 : x2.toInt ≤ 65535) : tz_Met l ⟨"StoryMachine$Engine", "secondValue", "(II)I"⟩ tw_tbl rm_En_secondValue (tzP (dC, dI) vcl cI cJ (gsC a he dp co li op wd tl lc fo sf lf nf) a (adC a) [.ref (a 5), .int x1, .int x2] sz) (tq_Q (q_En_secondValue dC dI cI cJ a he dp co li op wd tl lc fo sf lf nf x1 x2) (ga (adC a) sz)) 0 0 1 6 (ga (adC a) sz) := by
  refine tz_ofW (cc := prog_4_method_11_code) (maxL := 3) (ret := (some .int)) (by decide) (tx_isM mw_814) ?_
  intro p e s m args below meth c s₁ B hml hv
  obtain ⟨rfl, hsz, hI0, hK, hst0⟩ := hv
  have hx := B.exec
  have hb := B.bytes
  have hr := B.returns
  have hts := atoms_spec (ws := tw_tbl) B.pre
  have hown : s.vm.findClass "StoryMachine$Engine" = some m.cls := findClass_of_methodNamed B.named
  have hlocks := B.notSynchronized
  subst hsz
  have hst := fun (H : Heap) (locs : List Loc) (hS : va_S (ga (adC a) s.heap.size) s.heap H locs) (U : State) (hU : U.heap = H) (hW : s.WarmedH U.vm) => zS_all adC_map hI0 hst0 hS hU hW
  have hAC : ∀ q ∈ adC a, ga (adC a) s.heap.size q := fun q h => Or.inl h
  have hA0 : ∀ q, s.heap.size ≤ q → ga (adC a) s.heap.size q := fun q h => Or.inr h
  have hI : sI (dC, dI) vcl cI cJ (gsC a he dp co li op wd tl lc fo sf lf nf) (ga (adC a) s.heap.size) s.heap s.heap [] := ⟨hI0, va_S.rf⟩
  clear hI0 hst0
  have hl := lv_entry ([.ref (a 5), .int x1, .int x2]) (n := 3) (Nat.le_of_ble_eq_true rfl)
  rw [lg_entry_eq]
  generalize (lg_sl ([.ref (a 5), .int x1, .int x2]) ++ List.replicate (3 - (lg_sl ([.ref (a 5), .int x1, .int x2])).length) Slot.unset).toArray = ls at hl ⊢
  have hl : lv_has ls 3 [(0, .ref (a 5)), (1, .int x1), (2, .int x2)] := hl
  generalize hZ : tz_MQ below (tq_Q (q_En_secondValue dC dI cI cJ a he dp co li op wd tl lc fo sf lf nf x1 x2) (ga (adC a) s.heap.size)) ([.ref (a 5), .int x1, .int x2] : List Value).toArray s 0 0 1 6 (ga (adC a) s.heap.size) = Z
  obtain ⟨A, hAe⟩ : ∃ A, A = ga (adC a) s.heap.size := ⟨_, rfl⟩
  rw [← hAe] at hst hAC hA0 hI hZ
  refine sv_start hI (fun H locs hI => ?_)
  obtain ⟨⟨o1, o2⟩, ⟨o3, o4⟩, ⟨o5, o6⟩, ⟨o7, o8⟩, ⟨o9, o10⟩, ⟨o11, o12⟩, ⟨o13, o14⟩, ⟨o15, o16⟩, ⟨o17, o18⟩, o19, -, -⟩ := id hok
  have gx1 := sn_rng x1
  have gx2 := sn_rng x2
  refine lv_aload_n hx hb d_En_secondValue_0 rfl (lv_at hl 0 rfl) ?_
  refine sv_getr (C := "StoryMachine$Engine") (T := T_En) (N := 15) hx hb hts in_En hown hK hI 5 kC_5 rfl 7 (by decide) (hts _ mw_268) rfl d_En_secondValue_1 ?_
  refine sv_gete (C := "StoryMachine$Instruction") (T := T_In) (N := 11) hx hb hts in_In hown hK hI 19 kC_19 rfl 5 (by decide) (hts _ mw_227) rfl d_En_secondValue_4 (fun z20 hz20 => ?_)
  have w21 : W p l e (headSpec tw_tbl rm_En_secondValue).room s m ([.ref (a 5), .int x1, .int x2] : List Value).toArray below meth c H locs 0 0 Z (F0 m 189 ls []) := by
    refine lv_iload_n hx hb d_En_secondValue_189 rfl (lv_at hl 1 rfl) ?_
    refine sn_i2s hx hb d_En_secondValue_190 (fun z22 hz22a hz22b hz22c => ?_)
    refine lv_iload_n hx hb d_En_secondValue_191 rfl (lv_at hl 2 rfl) ?_
    refine tz_call (A1 := ga (adC a) H.size) (tz_runS (As := [.int x2]) (rest := [.int z22]) ⟨hx, hb, hml, hown, hts⟩ (c_En_divisor l hfl dC dI cI cJ a H.size he dp co li op wd tl lc fo sf lf nf x2 hok (by omega) (by omega)) (tx_cb (n := 1) hts rfl rfl ⟨Nat.le_of_ble_eq_true rfl, Nat.le_of_ble_eq_true rfl⟩ (tx_code.of (hts _ mw_840)) (hts _ mw_6) (by decide +kernel) (hts _ mw_838)) (hts _ mw_839) ⟨tz_blind, fun U hU hW => ⟨rfl, by rw [hU], by rw [hU]; exact hI.1, va_K.moved hW.alike hK, hst _ _ hI.2 U hU hW⟩⟩ rfl rfl hl.1 rfl (lv_room (Nat.le_of_ble_eq_true rfl)) d_En_secondValue_192 ⟨Nat.le_of_ble_eq_true rfl, Nat.le_of_ble_eq_true rfl⟩) hI.2 (fun q _ h => ga_sub hAC hA0 hI.2 q h) (ga_sub hAC hA0 hI.2) (fun v t H1 locs1 ht hWt hpost _ _ hS => ?_) (fun x t H1 locs1 ht hWt hpost _ _ hS => ?_)
    · rcases hpost.1 _ rfl with ⟨z23, hv, c24, c24_0, c24_1, c24_2, c24_3, hI1⟩
      cases hv
      have hI : sI (dC, dI) vcl cI cJ (gsC a he dp co li op wd tl lc fo sf lf nf) A s.heap H1 locs1 := ⟨by rw [← ht]; exact hI1, hS⟩
      clear hpost hI1 hS ht hWt
      revert hI; generalize H1 = H; generalize locs1 = locs; intro hI
      refine sn_iremT hx hb d_En_secondValue_195 (by omega) (fun z25 hz25a hz25b => ?_)
      subst hZ
      exact tz_ret (W.iret (v := z25) hx hb hr (fun t ht hW => ⟨⟨fun v9 hv9 => by cases hv9; exact (⟨z25, rfl, c24, by omega, by omega, by rw [ht]; exact hI.1⟩), fun x9 hx9 => (by cases hx9)⟩, hI.2.F ht⟩) hI.2.2.2 d_En_secondValue_196)
    · rcases hpost.2 _ rfl with ⟨hex, c26, c26_0, hI1⟩
      have hI : sI (dC, dI) vcl cI cJ (gsC a he dp co li op wd tl lc fo sf lf nf) A s.heap H1 locs1 := ⟨by rw [← ht]; exact hI1, hS⟩
      refine tz_widen (k := 1) (n := 6) (Nat.le_of_ble_eq_true rfl) (Nat.le_of_ble_eq_true rfl) ?_
      subst hZ
      exact tz_leave (tx_noH B (hts _ mw_814) _) (fun t9 ht9 hW9 => ⟨⟨fun v9 hv9 => (by cases hv9), fun x9 hx9 => by cases hx9; exact (Or.inl ⟨ta_exm hex ht ht9 hWt hW9, c26, by omega, by rw [ht9]; exact hI.1⟩)⟩, hI.2.F ht9⟩) hI.2.2.2 hlocks
  by_cases b27 : z20.toInt = 8
  · refine sn_tin (v := 8) (off := 77) (tgt := 84) hx hb d_En_secondValue_7 b27 (by decide) (by decide) (by decide) (by decide) ?_
    refine lv_iload_n hx hb d_En_secondValue_84 rfl (lv_at hl 1 rfl) ?_
    refine lv_iload_n hx hb d_En_secondValue_85 rfl (lv_at hl 2 rfl) ?_
    refine sn_iorT hx hb d_En_secondValue_86 (fun z28 hz28a hz28b => ?_)
    subst hZ
    exact tz_ret (W.iret (v := z28) hx hb hr (fun t ht hW => ⟨⟨fun v9 hv9 => by cases hv9; exact (⟨z28, rfl, hok, by omega, by omega, by rw [ht]; exact hI.1⟩), fun x9 hx9 => (by cases hx9)⟩, hI.2.F ht⟩) hI.2.2.2 d_En_secondValue_87)
  by_cases b29 : z20.toInt = 9
  · refine sn_tin (v := 9) (off := 81) (tgt := 88) hx hb d_En_secondValue_7 b29 (by decide) (by decide) (by decide) (by decide) ?_
    refine lv_iload_n hx hb d_En_secondValue_88 rfl (lv_at hl 1 rfl) ?_
    refine lv_iload_n hx hb d_En_secondValue_89 rfl (lv_at hl 2 rfl) ?_
    refine sn_iandT hx hb d_En_secondValue_90 (fun z30 hz30a hz30b => ?_)
    subst hZ
    exact tz_ret (W.iret (v := z30) hx hb hr (fun t ht hW => ⟨⟨fun v9 hv9 => by cases hv9; exact (⟨z30, rfl, hok, by omega, by omega, by rw [ht]; exact hI.1⟩), fun x9 hx9 => (by cases hx9)⟩, hI.2.F ht⟩) hI.2.2.2 d_En_secondValue_91)
  by_cases b31 : z20.toInt = 15
  · refine sn_tin (v := 15) (off := 85) (tgt := 92) hx hb d_En_secondValue_7 b31 (by decide) (by decide) (by decide) (by decide) ?_
    refine lv_aload_n hx hb d_En_secondValue_92 rfl (lv_at hl 0 rfl) ?_
    refine sv_getr (C := "StoryMachine$Engine") (T := T_En) (N := 15) hx hb hts in_En hown hK hI 5 kC_5 rfl 0 (by decide) (hts _ mw_261) rfl d_En_secondValue_93 ?_
    refine lv_iload_n hx hb d_En_secondValue_96 rfl (lv_at hl 1 rfl) ?_
    refine sn_iconst hx hb d_En_secondValue_97 (by decide) (fun z32 hz32 => ?_)
    refine lv_iload_n hx hb d_En_secondValue_98 rfl (lv_at hl 2 rfl) ?_
    refine sn_imulL (k := 2) hx hb d_En_secondValue_99 (by omega) (by omega) (by omega) (fun z33 hz33 => ?_)
    refine sn_iadd hx hb d_En_secondValue_100 (by omega) (by omega) (fun z34 hz34 => ?_)
    refine tz_call (A1 := ga (adC a) H.size) (tz_runV (C := "StoryMachine$Memory") (As := [.int z34]) (rest := []) ⟨hx, hb, hml, hown, hts⟩ (c_Me_wordAt l hfl dC dI cI cJ a H.size he dp co li op wd tl lc fo sf lf nf z34 hok) (tx_cb (n := 1) hts rfl rfl ⟨Nat.le_of_ble_eq_true rfl, Nat.le_of_ble_eq_true rfl⟩ (tx_code.of (hts _ mw_440)) (hts _ mw_2) (by decide +kernel) (hts _ mw_815)) (hts _ mw_438) (hts _ mw_439) ⟨tz_blind, sv_recv (q0 := 1) hts in_Me hK hI kC_1 rfl, fun U hU hW => ⟨rfl, by rw [hU], by rw [hU]; exact hI.1, va_K.moved hW.alike hK, hst _ _ hI.2 U hU hW⟩⟩ rfl rfl hl.1 rfl (lv_room (Nat.le_of_ble_eq_true rfl)) d_En_secondValue_101 ⟨Nat.le_of_ble_eq_true rfl, Nat.le_of_ble_eq_true rfl⟩) hI.2 (fun q _ h => ga_sub hAC hA0 hI.2 q h) (ga_sub hAC hA0 hI.2) (fun v t H1 locs1 ht hWt hpost _ _ hS => ?_) (fun x t H1 locs1 ht hWt hpost _ _ hS => ?_)
    · rcases hpost.1 _ rfl with ⟨z35, hv, c36, c36_0, c36_1, c36_2, c36_3, hI1⟩
      cases hv
      have hI : sI (dC, dI) vcl cI cJ (gsC a he dp co li op wd tl lc fo sf lf nf) A s.heap H1 locs1 := ⟨by rw [← ht]; exact hI1, hS⟩
      clear hpost hI1 hS ht hWt
      revert hI; generalize H1 = H; generalize locs1 = locs; intro hI
      subst hZ
      exact tz_ret (W.iret (v := z35) hx hb hr (fun t ht hW => ⟨⟨fun v9 hv9 => by cases hv9; exact (⟨z35, rfl, c36, by omega, by omega, by rw [ht]; exact hI.1⟩), fun x9 hx9 => (by cases hx9)⟩, hI.2.F ht⟩) hI.2.2.2 d_En_secondValue_104)
    · rcases hpost.2 _ rfl with ⟨hex, c37, hI1⟩
      have hI : sI (dC, dI) vcl cI cJ (gsC a he dp co li op wd tl lc fo sf lf nf) A s.heap H1 locs1 := ⟨by rw [← ht]; exact hI1, hS⟩
      refine tz_widen (k := 1) (n := 6) (Nat.le_of_ble_eq_true rfl) (Nat.le_of_ble_eq_true rfl) ?_
      subst hZ
      exact tz_leave (tx_noH B (hts _ mw_814) _) (fun t9 ht9 hW9 => ⟨⟨fun v9 hv9 => (by cases hv9), fun x9 hx9 => by cases hx9; exact (Or.inr (⟨ta_exm hex ht ht9 hWt hW9, c37, by omega, by omega, by rw [ht9]; exact hI.1⟩))⟩, hI.2.F ht9⟩) hI.2.2.2 hlocks
  by_cases b38 : z20.toInt = 16
  · refine sn_tin (v := 16) (off := 98) (tgt := 105) hx hb d_En_secondValue_7 b38 (by decide) (by decide) (by decide) (by decide) ?_
    refine lv_aload_n hx hb d_En_secondValue_105 rfl (lv_at hl 0 rfl) ?_
    refine sv_getr (C := "StoryMachine$Engine") (T := T_En) (N := 15) hx hb hts in_En hown hK hI 5 kC_5 rfl 0 (by decide) (hts _ mw_261) rfl d_En_secondValue_106 ?_
    refine lv_iload_n hx hb d_En_secondValue_109 rfl (lv_at hl 1 rfl) ?_
    refine lv_iload_n hx hb d_En_secondValue_110 rfl (lv_at hl 2 rfl) ?_
    refine sn_iadd hx hb d_En_secondValue_111 (by omega) (by omega) (fun z39 hz39 => ?_)
    refine tz_call (A1 := ga (adC a) H.size) (tz_runV (C := "StoryMachine$Memory") (As := [.int z39]) (rest := []) ⟨hx, hb, hml, hown, hts⟩ (c_Me_byteAt l hfl dC dI cI cJ a H.size he dp co li op wd tl lc fo sf lf nf z39 hok) (tx_cb (n := 1) hts rfl rfl ⟨Nat.le_of_ble_eq_true rfl, Nat.le_of_ble_eq_true rfl⟩ (tx_code.of (hts _ mw_511)) (hts _ mw_2) (by decide +kernel) (hts _ mw_790)) (hts _ mw_509) (hts _ mw_510) ⟨tz_blind, sv_recv (q0 := 1) hts in_Me hK hI kC_1 rfl, fun U hU hW => ⟨rfl, by rw [hU], by rw [hU]; exact hI.1, va_K.moved hW.alike hK, hst _ _ hI.2 U hU hW⟩⟩ rfl rfl hl.1 rfl (lv_room (Nat.le_of_ble_eq_true rfl)) d_En_secondValue_112 ⟨Nat.le_of_ble_eq_true rfl, Nat.le_of_ble_eq_true rfl⟩) hI.2 (fun q _ h => ga_sub hAC hA0 hI.2 q h) (ga_sub hAC hA0 hI.2) (fun v t H1 locs1 ht hWt hpost _ _ hS => ?_) (fun x t H1 locs1 ht hWt hpost _ _ hS => ?_)
    · rcases hpost.1 _ rfl with ⟨z40, hv, c41, c41_0, c41_1, c41_2, c41_3, hI1⟩
      cases hv
      have hI : sI (dC, dI) vcl cI cJ (gsC a he dp co li op wd tl lc fo sf lf nf) A s.heap H1 locs1 := ⟨by rw [← ht]; exact hI1, hS⟩
      clear hpost hI1 hS ht hWt
      revert hI; generalize H1 = H; generalize locs1 = locs; intro hI
      subst hZ
      exact tz_ret (W.iret (v := z40) hx hb hr (fun t ht hW => ⟨⟨fun v9 hv9 => by cases hv9; exact (⟨z40, rfl, c41, by omega, by omega, by rw [ht]; exact hI.1⟩), fun x9 hx9 => (by cases hx9)⟩, hI.2.F ht⟩) hI.2.2.2 d_En_secondValue_115)
    · rcases hpost.2 _ rfl with ⟨hex, c42, hI1⟩
      have hI : sI (dC, dI) vcl cI cJ (gsC a he dp co li op wd tl lc fo sf lf nf) A s.heap H1 locs1 := ⟨by rw [← ht]; exact hI1, hS⟩
      refine tz_widen (k := 1) (n := 6) (Nat.le_of_ble_eq_true rfl) (Nat.le_of_ble_eq_true rfl) ?_
      subst hZ
      exact tz_leave (tx_noH B (hts _ mw_814) _) (fun t9 ht9 hW9 => ⟨⟨fun v9 hv9 => (by cases hv9), fun x9 hx9 => by cases hx9; exact (Or.inr (⟨ta_exm hex ht ht9 hWt hW9, c42, by omega, by omega, by rw [ht9]; exact hI.1⟩))⟩, hI.2.F ht9⟩) hI.2.2.2 hlocks
  by_cases b43 : z20.toInt = 17
  · refine sn_tin (v := 17) (off := 109) (tgt := 116) hx hb d_En_secondValue_7 b43 (by decide) (by decide) (by decide) (by decide) ?_
    refine lv_aload_n hx hb d_En_secondValue_116 rfl (lv_at hl 0 rfl) ?_
    refine sv_getr (C := "StoryMachine$Engine") (T := T_En) (N := 15) hx hb hts in_En hown hK hI 5 kC_5 rfl 5 (by decide) (hts _ mw_266) rfl d_En_secondValue_117 ?_
    refine lv_aload_n hx hb d_En_secondValue_120 rfl (lv_at hl 0 rfl) ?_
    refine sv_getr (C := "StoryMachine$Engine") (T := T_En) (N := 15) hx hb hts in_En hown hK hI 5 kC_5 rfl 5 (by decide) (hts _ mw_266) rfl d_En_secondValue_121 ?_
    refine lv_iload_n hx hb d_En_secondValue_124 rfl (lv_at hl 1 rfl) ?_
    refine tz_call (A1 := ga (adC a) H.size) (tz_runV (C := "StoryMachine$Tree") (As := [.int x1]) (rest := [.ref (a 17)]) ⟨hx, hb, hml, hown, hts⟩ (c_Tr_properties l hfl dC dI cI cJ a H.size he dp co li op wd tl lc fo sf lf nf x1 hok) (tx_cb (n := 1) hts rfl rfl ⟨Nat.le_of_ble_eq_true rfl, Nat.le_of_ble_eq_true rfl⟩ (tx_code.of (hts _ mw_819)) (hts _ mw_9) (by decide +kernel) (hts _ mw_816)) (hts _ mw_817) (hts _ mw_818) ⟨tz_blind, sv_recv (q0 := 17) hts in_Tr hK hI kC_17 rfl, fun U hU hW => ⟨rfl, by rw [hU], by rw [hU]; exact hI.1, va_K.moved hW.alike hK, hst _ _ hI.2 U hU hW⟩⟩ rfl rfl hl.1 rfl (lv_room (Nat.le_of_ble_eq_true rfl)) d_En_secondValue_125 ⟨Nat.le_of_ble_eq_true rfl, Nat.le_of_ble_eq_true rfl⟩) hI.2 (fun q _ h => ga_sub hAC hA0 hI.2 q h) (ga_sub hAC hA0 hI.2) (fun v t H1 locs1 ht hWt hpost _ _ hS => ?_) (fun x t H1 locs1 ht hWt hpost _ _ hS => ?_)
    · rcases hpost.1 _ rfl with ⟨z44, hv, c45, c45_0, c45_1, c45_2, c45_3, hI1⟩
      cases hv
      have hI : sI (dC, dI) vcl cI cJ (gsC a he dp co li op wd tl lc fo sf lf nf) A s.heap H1 locs1 := ⟨by rw [← ht]; exact hI1, hS⟩
      clear hpost hI1 hS ht hWt
      revert hI; generalize H1 = H; generalize locs1 = locs; intro hI
      refine lv_iload_n hx hb d_En_secondValue_128 rfl (lv_at hl 2 rfl) ?_
      refine tz_call (A1 := ga (adC a) H.size) (tz_runV (C := "StoryMachine$Tree") (As := [.int z44, .int x2]) (rest := []) ⟨hx, hb, hml, hown, hts⟩ (c_Tr_propertyValue l hfl dC dI cI cJ a H.size he dp co li op wd tl lc fo sf lf nf z44 x2 c45) (tx_cb (n := 2) hts rfl rfl ⟨Nat.le_of_ble_eq_true rfl, Nat.le_of_ble_eq_true rfl⟩ (tx_code.of (hts _ mw_823)) (hts _ mw_9) (by decide +kernel) (hts _ mw_820)) (hts _ mw_821) (hts _ mw_822) ⟨tz_blind, sv_recv (q0 := 17) hts in_Tr hK hI kC_17 rfl, fun U hU hW => ⟨rfl, by rw [hU], by rw [hU]; exact hI.1, va_K.moved hW.alike hK, hst _ _ hI.2 U hU hW⟩⟩ rfl rfl hl.1 rfl (lv_room (Nat.le_of_ble_eq_true rfl)) d_En_secondValue_129 ⟨Nat.le_of_ble_eq_true rfl, Nat.le_of_ble_eq_true rfl⟩) hI.2 (fun q _ h => ga_sub hAC hA0 hI.2 q h) (ga_sub hAC hA0 hI.2) (fun v t H1 locs1 ht hWt hpost _ _ hS => ?_) (fun x t H1 locs1 ht hWt hpost _ _ hS => ?_)
      · rcases hpost.1 _ rfl with ⟨z46, hv, c47, c47_0, c47_1, hI1⟩
        cases hv
        have hI : sI (dC, dI) vcl cI cJ (gsC a he dp co li op wd tl lc fo sf lf nf) A s.heap H1 locs1 := ⟨by rw [← ht]; exact hI1, hS⟩
        clear hpost hI1 hS ht hWt
        revert hI; generalize H1 = H; generalize locs1 = locs; intro hI
        subst hZ
        exact tz_ret (W.iret (v := z46) hx hb hr (fun t ht hW => ⟨⟨fun v9 hv9 => by cases hv9; exact (⟨z46, rfl, c47, by omega, by omega, by rw [ht]; exact hI.1⟩), fun x9 hx9 => (by cases hx9)⟩, hI.2.F ht⟩) hI.2.2.2 d_En_secondValue_132)
      · rcases hpost.2 _ rfl with ⟨hex, c48, hI1⟩
        have hI : sI (dC, dI) vcl cI cJ (gsC a he dp co li op wd tl lc fo sf lf nf) A s.heap H1 locs1 := ⟨by rw [← ht]; exact hI1, hS⟩
        refine tz_widen (k := 1) (n := 6) (Nat.le_of_ble_eq_true rfl) (Nat.le_of_ble_eq_true rfl) ?_
        subst hZ
        exact tz_leave (tx_noH B (hts _ mw_814) _) (fun t9 ht9 hW9 => ⟨⟨fun v9 hv9 => (by cases hv9), fun x9 hx9 => by cases hx9; exact (Or.inr (⟨ta_exm hex ht ht9 hWt hW9, c48, by omega, by omega, by rw [ht9]; exact hI.1⟩))⟩, hI.2.F ht9⟩) hI.2.2.2 hlocks
    · rcases hpost.2 _ rfl with ⟨hex, c49, hI1⟩
      have hI : sI (dC, dI) vcl cI cJ (gsC a he dp co li op wd tl lc fo sf lf nf) A s.heap H1 locs1 := ⟨by rw [← ht]; exact hI1, hS⟩
      refine tz_widen (k := 1) (n := 6) (Nat.le_of_ble_eq_true rfl) (Nat.le_of_ble_eq_true rfl) ?_
      subst hZ
      exact tz_leave (tx_noH B (hts _ mw_814) _) (fun t9 ht9 hW9 => ⟨⟨fun v9 hv9 => (by cases hv9), fun x9 hx9 => by cases hx9; exact (Or.inr (⟨ta_exm hex ht ht9 hWt hW9, c49, by omega, by omega, by rw [ht9]; exact hI.1⟩))⟩, hI.2.F ht9⟩) hI.2.2.2 hlocks
  by_cases b50 : z20.toInt = 18
  · refine sn_tin (v := 18) (off := 126) (tgt := 133) hx hb d_En_secondValue_7 b50 (by decide) (by decide) (by decide) (by decide) ?_
    refine lv_aload_n hx hb d_En_secondValue_133 rfl (lv_at hl 0 rfl) ?_
    refine sv_getr (C := "StoryMachine$Engine") (T := T_En) (N := 15) hx hb hts in_En hown hK hI 5 kC_5 rfl 5 (by decide) (hts _ mw_266) rfl d_En_secondValue_134 ?_
    refine lv_aload_n hx hb d_En_secondValue_137 rfl (lv_at hl 0 rfl) ?_
    refine sv_getr (C := "StoryMachine$Engine") (T := T_En) (N := 15) hx hb hts in_En hown hK hI 5 kC_5 rfl 5 (by decide) (hts _ mw_266) rfl d_En_secondValue_138 ?_
    refine lv_iload_n hx hb d_En_secondValue_141 rfl (lv_at hl 1 rfl) ?_
    refine tz_call (A1 := ga (adC a) H.size) (tz_runV (C := "StoryMachine$Tree") (As := [.int x1]) (rest := [.ref (a 17)]) ⟨hx, hb, hml, hown, hts⟩ (c_Tr_properties l hfl dC dI cI cJ a H.size he dp co li op wd tl lc fo sf lf nf x1 hok) (tx_cb (n := 1) hts rfl rfl ⟨Nat.le_of_ble_eq_true rfl, Nat.le_of_ble_eq_true rfl⟩ (tx_code.of (hts _ mw_819)) (hts _ mw_9) (by decide +kernel) (hts _ mw_816)) (hts _ mw_817) (hts _ mw_818) ⟨tz_blind, sv_recv (q0 := 17) hts in_Tr hK hI kC_17 rfl, fun U hU hW => ⟨rfl, by rw [hU], by rw [hU]; exact hI.1, va_K.moved hW.alike hK, hst _ _ hI.2 U hU hW⟩⟩ rfl rfl hl.1 rfl (lv_room (Nat.le_of_ble_eq_true rfl)) d_En_secondValue_142 ⟨Nat.le_of_ble_eq_true rfl, Nat.le_of_ble_eq_true rfl⟩) hI.2 (fun q _ h => ga_sub hAC hA0 hI.2 q h) (ga_sub hAC hA0 hI.2) (fun v t H1 locs1 ht hWt hpost _ _ hS => ?_) (fun x t H1 locs1 ht hWt hpost _ _ hS => ?_)
    · rcases hpost.1 _ rfl with ⟨z51, hv, c52, c52_0, c52_1, c52_2, c52_3, hI1⟩
      cases hv
      have hI : sI (dC, dI) vcl cI cJ (gsC a he dp co li op wd tl lc fo sf lf nf) A s.heap H1 locs1 := ⟨by rw [← ht]; exact hI1, hS⟩
      clear hpost hI1 hS ht hWt
      revert hI; generalize H1 = H; generalize locs1 = locs; intro hI
      refine lv_iload_n hx hb d_En_secondValue_145 rfl (lv_at hl 2 rfl) ?_
      refine tz_call (A1 := ga (adC a) H.size) (tz_runV (C := "StoryMachine$Tree") (As := [.int z51, .int x2]) (rest := []) ⟨hx, hb, hml, hown, hts⟩ (c_Tr_propertyPlace l hfl dC dI cI cJ a H.size he dp co li op wd tl lc fo sf lf nf z51 x2 c52) (tx_cb (n := 2) hts rfl rfl ⟨Nat.le_of_ble_eq_true rfl, Nat.le_of_ble_eq_true rfl⟩ (tx_code.of (hts _ mw_827)) (hts _ mw_9) (by decide +kernel) (hts _ mw_833)) (hts _ mw_825) (hts _ mw_826) ⟨tz_blind, sv_recv (q0 := 17) hts in_Tr hK hI kC_17 rfl, fun U hU hW => ⟨rfl, by rw [hU], by rw [hU]; exact hI.1, va_K.moved hW.alike hK, hst _ _ hI.2 U hU hW⟩⟩ rfl rfl hl.1 rfl (lv_room (Nat.le_of_ble_eq_true rfl)) d_En_secondValue_146 ⟨Nat.le_of_ble_eq_true rfl, Nat.le_of_ble_eq_true rfl⟩) hI.2 (fun q _ h => ga_sub hAC hA0 hI.2 q h) (ga_sub hAC hA0 hI.2) (fun v t H1 locs1 ht hWt hpost _ _ hS => ?_) (fun x t H1 locs1 ht hWt hpost _ _ hS => ?_)
      · rcases hpost.1 _ rfl with ⟨z53, hv, c54, c54_0, c54_1, hI1⟩
        cases hv
        have hI : sI (dC, dI) vcl cI cJ (gsC a he dp co li op wd tl lc fo sf lf nf) A s.heap H1 locs1 := ⟨by rw [← ht]; exact hI1, hS⟩
        clear hpost hI1 hS ht hWt
        revert hI; generalize H1 = H; generalize locs1 = locs; intro hI
        subst hZ
        exact tz_ret (W.iret (v := z53) hx hb hr (fun t ht hW => ⟨⟨fun v9 hv9 => by cases hv9; exact (⟨z53, rfl, c54, by omega, by omega, by rw [ht]; exact hI.1⟩), fun x9 hx9 => (by cases hx9)⟩, hI.2.F ht⟩) hI.2.2.2 d_En_secondValue_149)
      · rcases hpost.2 _ rfl with ⟨hex, c55, hI1⟩
        have hI : sI (dC, dI) vcl cI cJ (gsC a he dp co li op wd tl lc fo sf lf nf) A s.heap H1 locs1 := ⟨by rw [← ht]; exact hI1, hS⟩
        refine tz_widen (k := 1) (n := 6) (Nat.le_of_ble_eq_true rfl) (Nat.le_of_ble_eq_true rfl) ?_
        subst hZ
        exact tz_leave (tx_noH B (hts _ mw_814) _) (fun t9 ht9 hW9 => ⟨⟨fun v9 hv9 => (by cases hv9), fun x9 hx9 => by cases hx9; exact (Or.inr (⟨ta_exm hex ht ht9 hWt hW9, c55, by omega, by omega, by rw [ht9]; exact hI.1⟩))⟩, hI.2.F ht9⟩) hI.2.2.2 hlocks
    · rcases hpost.2 _ rfl with ⟨hex, c56, hI1⟩
      have hI : sI (dC, dI) vcl cI cJ (gsC a he dp co li op wd tl lc fo sf lf nf) A s.heap H1 locs1 := ⟨by rw [← ht]; exact hI1, hS⟩
      refine tz_widen (k := 1) (n := 6) (Nat.le_of_ble_eq_true rfl) (Nat.le_of_ble_eq_true rfl) ?_
      subst hZ
      exact tz_leave (tx_noH B (hts _ mw_814) _) (fun t9 ht9 hW9 => ⟨⟨fun v9 hv9 => (by cases hv9), fun x9 hx9 => by cases hx9; exact (Or.inr (⟨ta_exm hex ht ht9 hWt hW9, c56, by omega, by omega, by rw [ht9]; exact hI.1⟩))⟩, hI.2.F ht9⟩) hI.2.2.2 hlocks
  by_cases b57 : z20.toInt = 19
  · refine sn_tin (v := 19) (off := 143) (tgt := 150) hx hb d_En_secondValue_7 b57 (by decide) (by decide) (by decide) (by decide) ?_
    refine lv_aload_n hx hb d_En_secondValue_150 rfl (lv_at hl 0 rfl) ?_
    refine sv_getr (C := "StoryMachine$Engine") (T := T_En) (N := 15) hx hb hts in_En hown hK hI 5 kC_5 rfl 5 (by decide) (hts _ mw_266) rfl d_En_secondValue_151 ?_
    refine lv_aload_n hx hb d_En_secondValue_154 rfl (lv_at hl 0 rfl) ?_
    refine sv_getr (C := "StoryMachine$Engine") (T := T_En) (N := 15) hx hb hts in_En hown hK hI 5 kC_5 rfl 5 (by decide) (hts _ mw_266) rfl d_En_secondValue_155 ?_
    refine lv_iload_n hx hb d_En_secondValue_158 rfl (lv_at hl 1 rfl) ?_
    refine tz_call (A1 := ga (adC a) H.size) (tz_runV (C := "StoryMachine$Tree") (As := [.int x1]) (rest := [.ref (a 17)]) ⟨hx, hb, hml, hown, hts⟩ (c_Tr_properties l hfl dC dI cI cJ a H.size he dp co li op wd tl lc fo sf lf nf x1 hok) (tx_cb (n := 1) hts rfl rfl ⟨Nat.le_of_ble_eq_true rfl, Nat.le_of_ble_eq_true rfl⟩ (tx_code.of (hts _ mw_819)) (hts _ mw_9) (by decide +kernel) (hts _ mw_816)) (hts _ mw_817) (hts _ mw_818) ⟨tz_blind, sv_recv (q0 := 17) hts in_Tr hK hI kC_17 rfl, fun U hU hW => ⟨rfl, by rw [hU], by rw [hU]; exact hI.1, va_K.moved hW.alike hK, hst _ _ hI.2 U hU hW⟩⟩ rfl rfl hl.1 rfl (lv_room (Nat.le_of_ble_eq_true rfl)) d_En_secondValue_159 ⟨Nat.le_of_ble_eq_true rfl, Nat.le_of_ble_eq_true rfl⟩) hI.2 (fun q _ h => ga_sub hAC hA0 hI.2 q h) (ga_sub hAC hA0 hI.2) (fun v t H1 locs1 ht hWt hpost _ _ hS => ?_) (fun x t H1 locs1 ht hWt hpost _ _ hS => ?_)
    · rcases hpost.1 _ rfl with ⟨z58, hv, c59, c59_0, c59_1, c59_2, c59_3, hI1⟩
      cases hv
      have hI : sI (dC, dI) vcl cI cJ (gsC a he dp co li op wd tl lc fo sf lf nf) A s.heap H1 locs1 := ⟨by rw [← ht]; exact hI1, hS⟩
      clear hpost hI1 hS ht hWt
      revert hI; generalize H1 = H; generalize locs1 = locs; intro hI
      refine lv_iload_n hx hb d_En_secondValue_162 rfl (lv_at hl 2 rfl) ?_
      refine tz_call (A1 := ga (adC a) H.size) (tz_runV (C := "StoryMachine$Tree") (As := [.int z58, .int x2]) (rest := []) ⟨hx, hb, hml, hown, hts⟩ (c_Tr_propertyBehind l hfl dC dI cI cJ a H.size he dp co li op wd tl lc fo sf lf nf z58 x2 c59) (tx_cb (n := 2) hts rfl rfl ⟨Nat.le_of_ble_eq_true rfl, Nat.le_of_ble_eq_true rfl⟩ (tx_code.of (hts _ mw_837)) (hts _ mw_9) (by decide +kernel) (hts _ mw_834)) (hts _ mw_835) (hts _ mw_836) ⟨tz_blind, sv_recv (q0 := 17) hts in_Tr hK hI kC_17 rfl, fun U hU hW => ⟨rfl, by rw [hU], by rw [hU]; exact hI.1, va_K.moved hW.alike hK, hst _ _ hI.2 U hU hW⟩⟩ rfl rfl hl.1 rfl (lv_room (Nat.le_of_ble_eq_true rfl)) d_En_secondValue_163 ⟨Nat.le_of_ble_eq_true rfl, Nat.le_of_ble_eq_true rfl⟩) hI.2 (fun q _ h => ga_sub hAC hA0 hI.2 q h) (ga_sub hAC hA0 hI.2) (fun v t H1 locs1 ht hWt hpost _ _ hS => ?_) (fun x t H1 locs1 ht hWt hpost _ _ hS => ?_)
      · rcases hpost.1 _ rfl with ⟨z60, hv, c61, c61_0, c61_1, hI1⟩
        cases hv
        have hI : sI (dC, dI) vcl cI cJ (gsC a he dp co li op wd tl lc fo sf lf nf) A s.heap H1 locs1 := ⟨by rw [← ht]; exact hI1, hS⟩
        clear hpost hI1 hS ht hWt
        revert hI; generalize H1 = H; generalize locs1 = locs; intro hI
        subst hZ
        exact tz_ret (W.iret (v := z60) hx hb hr (fun t ht hW => ⟨⟨fun v9 hv9 => by cases hv9; exact (⟨z60, rfl, c61, by omega, by omega, by rw [ht]; exact hI.1⟩), fun x9 hx9 => (by cases hx9)⟩, hI.2.F ht⟩) hI.2.2.2 d_En_secondValue_166)
      · rcases hpost.2 _ rfl with ⟨hex, c62, hI1⟩
        have hI : sI (dC, dI) vcl cI cJ (gsC a he dp co li op wd tl lc fo sf lf nf) A s.heap H1 locs1 := ⟨by rw [← ht]; exact hI1, hS⟩
        refine tz_widen (k := 1) (n := 6) (Nat.le_of_ble_eq_true rfl) (Nat.le_of_ble_eq_true rfl) ?_
        subst hZ
        exact tz_leave (tx_noH B (hts _ mw_814) _) (fun t9 ht9 hW9 => ⟨⟨fun v9 hv9 => (by cases hv9), fun x9 hx9 => by cases hx9; exact (Or.inr (⟨ta_exm hex ht ht9 hWt hW9, c62, by omega, by omega, by rw [ht9]; exact hI.1⟩))⟩, hI.2.F ht9⟩) hI.2.2.2 hlocks
    · rcases hpost.2 _ rfl with ⟨hex, c63, hI1⟩
      have hI : sI (dC, dI) vcl cI cJ (gsC a he dp co li op wd tl lc fo sf lf nf) A s.heap H1 locs1 := ⟨by rw [← ht]; exact hI1, hS⟩
      refine tz_widen (k := 1) (n := 6) (Nat.le_of_ble_eq_true rfl) (Nat.le_of_ble_eq_true rfl) ?_
      subst hZ
      exact tz_leave (tx_noH B (hts _ mw_814) _) (fun t9 ht9 hW9 => ⟨⟨fun v9 hv9 => (by cases hv9), fun x9 hx9 => by cases hx9; exact (Or.inr (⟨ta_exm hex ht ht9 hWt hW9, c63, by omega, by omega, by rw [ht9]; exact hI.1⟩))⟩, hI.2.F ht9⟩) hI.2.2.2 hlocks
  by_cases b64 : z20.toInt = 20
  · refine sn_tin (v := 20) (off := 160) (tgt := 167) hx hb d_En_secondValue_7 b64 (by decide) (by decide) (by decide) (by decide) ?_
    refine lv_iload_n hx hb d_En_secondValue_167 rfl (lv_at hl 1 rfl) ?_
    refine lv_iload_n hx hb d_En_secondValue_168 rfl (lv_at hl 2 rfl) ?_
    refine sn_iadd hx hb d_En_secondValue_169 (by omega) (by omega) (fun z65 hz65 => ?_)
    subst hZ
    exact tz_ret (W.iret (v := z65) hx hb hr (fun t ht hW => ⟨⟨fun v9 hv9 => by cases hv9; exact (⟨z65, rfl, hok, by omega, by omega, by rw [ht]; exact hI.1⟩), fun x9 hx9 => (by cases hx9)⟩, hI.2.F ht⟩) hI.2.2.2 d_En_secondValue_170)
  by_cases b66 : z20.toInt = 21
  · refine sn_tin (v := 21) (off := 164) (tgt := 171) hx hb d_En_secondValue_7 b66 (by decide) (by decide) (by decide) (by decide) ?_
    refine lv_iload_n hx hb d_En_secondValue_171 rfl (lv_at hl 1 rfl) ?_
    refine lv_iload_n hx hb d_En_secondValue_172 rfl (lv_at hl 2 rfl) ?_
    refine sn_isub hx hb d_En_secondValue_173 (by omega) (by omega) (fun z67 hz67 => ?_)
    subst hZ
    exact tz_ret (W.iret (v := z67) hx hb hr (fun t ht hW => ⟨⟨fun v9 hv9 => by cases hv9; exact (⟨z67, rfl, hok, by omega, by omega, by rw [ht]; exact hI.1⟩), fun x9 hx9 => (by cases hx9)⟩, hI.2.F ht⟩) hI.2.2.2 d_En_secondValue_174)
  by_cases b68 : z20.toInt = 22
  · refine sn_tin (v := 22) (off := 168) (tgt := 175) hx hb d_En_secondValue_7 b68 (by decide) (by decide) (by decide) (by decide) ?_
    refine lv_iload_n hx hb d_En_secondValue_175 rfl (lv_at hl 1 rfl) ?_
    refine sn_i2s hx hb d_En_secondValue_176 (fun z69 hz69a hz69b hz69c => ?_)
    refine lv_iload_n hx hb d_En_secondValue_177 rfl (lv_at hl 2 rfl) ?_
    refine sn_i2s hx hb d_En_secondValue_178 (fun z70 hz70a hz70b hz70c => ?_)
    refine sn_imulT hx hb d_En_secondValue_179 (fun z71 hz71a hz71b => ?_)
    subst hZ
    exact tz_ret (W.iret (v := z71) hx hb hr (fun t ht hW => ⟨⟨fun v9 hv9 => by cases hv9; exact (⟨z71, rfl, hok, by omega, by omega, by rw [ht]; exact hI.1⟩), fun x9 hx9 => (by cases hx9)⟩, hI.2.F ht⟩) hI.2.2.2 d_En_secondValue_180)
  by_cases b72 : z20.toInt = 23
  · refine sn_tin (v := 23) (off := 174) (tgt := 181) hx hb d_En_secondValue_7 b72 (by decide) (by decide) (by decide) (by decide) ?_
    refine lv_iload_n hx hb d_En_secondValue_181 rfl (lv_at hl 1 rfl) ?_
    refine sn_i2s hx hb d_En_secondValue_182 (fun z73 hz73a hz73b hz73c => ?_)
    refine lv_iload_n hx hb d_En_secondValue_183 rfl (lv_at hl 2 rfl) ?_
    refine tz_call (A1 := ga (adC a) H.size) (tz_runS (As := [.int x2]) (rest := [.int z73]) ⟨hx, hb, hml, hown, hts⟩ (c_En_divisor l hfl dC dI cI cJ a H.size he dp co li op wd tl lc fo sf lf nf x2 hok (by omega) (by omega)) (tx_cb (n := 1) hts rfl rfl ⟨Nat.le_of_ble_eq_true rfl, Nat.le_of_ble_eq_true rfl⟩ (tx_code.of (hts _ mw_840)) (hts _ mw_6) (by decide +kernel) (hts _ mw_838)) (hts _ mw_839) ⟨tz_blind, fun U hU hW => ⟨rfl, by rw [hU], by rw [hU]; exact hI.1, va_K.moved hW.alike hK, hst _ _ hI.2 U hU hW⟩⟩ rfl rfl hl.1 rfl (lv_room (Nat.le_of_ble_eq_true rfl)) d_En_secondValue_184 ⟨Nat.le_of_ble_eq_true rfl, Nat.le_of_ble_eq_true rfl⟩) hI.2 (fun q _ h => ga_sub hAC hA0 hI.2 q h) (ga_sub hAC hA0 hI.2) (fun v t H1 locs1 ht hWt hpost _ _ hS => ?_) (fun x t H1 locs1 ht hWt hpost _ _ hS => ?_)
    · rcases hpost.1 _ rfl with ⟨z74, hv, c75, c75_0, c75_1, c75_2, c75_3, hI1⟩
      cases hv
      have hI : sI (dC, dI) vcl cI cJ (gsC a he dp co li op wd tl lc fo sf lf nf) A s.heap H1 locs1 := ⟨by rw [← ht]; exact hI1, hS⟩
      clear hpost hI1 hS ht hWt
      revert hI; generalize H1 = H; generalize locs1 = locs; intro hI
      refine sn_idivT hx hb d_En_secondValue_187 (by omega) (fun z76 hz76a hz76b => ?_)
      subst hZ
      exact tz_ret (W.iret (v := z76) hx hb hr (fun t ht hW => ⟨⟨fun v9 hv9 => by cases hv9; exact (⟨z76, rfl, c75, by omega, by omega, by rw [ht]; exact hI.1⟩), fun x9 hx9 => (by cases hx9)⟩, hI.2.F ht⟩) hI.2.2.2 d_En_secondValue_188)
    · rcases hpost.2 _ rfl with ⟨hex, c77, c77_0, hI1⟩
      have hI : sI (dC, dI) vcl cI cJ (gsC a he dp co li op wd tl lc fo sf lf nf) A s.heap H1 locs1 := ⟨by rw [← ht]; exact hI1, hS⟩
      refine tz_widen (k := 1) (n := 6) (Nat.le_of_ble_eq_true rfl) (Nat.le_of_ble_eq_true rfl) ?_
      subst hZ
      exact tz_leave (tx_noH B (hts _ mw_814) _) (fun t9 ht9 hW9 => ⟨⟨fun v9 hv9 => (by cases hv9), fun x9 hx9 => by cases hx9; exact (Or.inl ⟨ta_exm hex ht ht9 hWt hW9, c77, by omega, by rw [ht9]; exact hI.1⟩)⟩, hI.2.F ht9⟩) hI.2.2.2 hlocks
  by_cases b78 : z20.toInt = 10
  · exact sn_tin (v := 10) (off := 182) (tgt := 189) hx hb d_En_secondValue_7 b78 (by decide) (by decide) (by decide) (by decide) w21
  by_cases b79 : z20.toInt = 11
  · exact sn_tin (v := 11) (off := 182) (tgt := 189) hx hb d_En_secondValue_7 b79 (by decide) (by decide) (by decide) (by decide) w21
  by_cases b80 : z20.toInt = 12
  · exact sn_tin (v := 12) (off := 182) (tgt := 189) hx hb d_En_secondValue_7 b80 (by decide) (by decide) (by decide) (by decide) w21
  by_cases b81 : z20.toInt = 13
  · exact sn_tin (v := 13) (off := 182) (tgt := 189) hx hb d_En_secondValue_7 b81 (by decide) (by decide) (by decide) (by decide) w21
  by_cases b82 : z20.toInt = 14
  · exact sn_tin (v := 14) (off := 182) (tgt := 189) hx hb d_En_secondValue_7 b82 (by decide) (by decide) (by decide) (by decide) w21
  exact lv_tableOut (tgt := 189) hx hb d_En_secondValue_7 (by omega) (by decide) w21
abbrev q_En_isAmongOthers (dC : Nat → ClassId) (dI : Nat → Nat → Nat) (cI cJ : ClassId) (a : Nat → Nat) (he dp co li op wd tl lc fo : Int) (sf lf nf : Nat → Int32) (x1 : Int32) : Outcome → State → Prop := fun o t => (∀ v, o = .returned v → ((∃ (z : Int32), v = some (.int z) ∧ okC he dp co li op wd tl lc fo sf lf nf ∧ (0 ≤ z.toInt) ∧ (z.toInt ≤ 0) ∧ sh_I (dC, dI) vcl cI cJ (gsC a he dp co li op wd tl lc fo sf lf nf) t.heap) ∨ (∃ (z : Int32), v = some (.int z) ∧ okC he dp co li op wd tl lc fo sf lf nf ∧ (1 ≤ z.toInt) ∧ (z.toInt ≤ 1) ∧ (2 ≤ co) ∧ sh_I (dC, dI) vcl cI cJ (gsC a he dp co li op wd tl lc fo sf lf nf) t.heap))) ∧ (∀ x, o = .threw x → (False))
def rm_En_isAmongOthers : Room := { frames := 0, cells := 0, slots := 0, locals := 0 }
set_option maxHeartbeats 4000000 in
set_option maxRecDepth 100000 in
theorem c_En_isAmongOthers (l : Launch) (hfl : l.flags = pinnedFlags ++ [noTraceFlag]) (dC : Nat → ClassId) (dI : Nat → Nat → Nat) (cI cJ : ClassId) (a : Nat → Nat) (sz : Nat) (he dp co li op wd tl lc fo : Int) (sf lf nf : Nat → Int32) (x1 : Int32) (hok : okC he dp co li op wd tl lc fo sf lf nf) (hp0 : 0 ≤ x1.toInt) (hp1 : x1.toInt ≤ 65535) : tz_Met l ⟨"StoryMachine$Engine", "isAmongOthers", "(I)Z"⟩ tw_tbl rm_En_isAmongOthers (tzP (dC, dI) vcl cI cJ (gsC a he dp co li op wd tl lc fo sf lf nf) a (adC a) [.ref (a 5), .int x1] sz) (tq_Q (q_En_isAmongOthers dC dI cI cJ a he dp co li op wd tl lc fo sf lf nf x1) (ga (adC a) sz)) 0 0 0 0 (ga (adC a) sz) := by
  refine tz_ofW (cc := prog_4_method_9_code) (maxL := 3) (ret := (some .boolean)) (by decide) (tx_isM mw_802) ?_
  intro p e s m args below meth c s₁ B hml hv
  obtain ⟨rfl, hsz, hI0, hK, hst0⟩ := hv
  have hx := B.exec
  have hb := B.bytes
  have hr := B.returns
  have hts := atoms_spec (ws := tw_tbl) B.pre
  have hown : s.vm.findClass "StoryMachine$Engine" = some m.cls := findClass_of_methodNamed B.named
  have hlocks := B.notSynchronized
  subst hsz
  have hst := fun (H : Heap) (locs : List Loc) (hS : va_S (ga (adC a) s.heap.size) s.heap H locs) (U : State) (hU : U.heap = H) (hW : s.WarmedH U.vm) => zS_all adC_map hI0 hst0 hS hU hW
  have hAC : ∀ q ∈ adC a, ga (adC a) s.heap.size q := fun q h => Or.inl h
  have hA0 : ∀ q, s.heap.size ≤ q → ga (adC a) s.heap.size q := fun q h => Or.inr h
  have hI : sI (dC, dI) vcl cI cJ (gsC a he dp co li op wd tl lc fo sf lf nf) (ga (adC a) s.heap.size) s.heap s.heap [] := ⟨hI0, va_S.rf⟩
  clear hI0 hst0
  have hl := lv_entry ([.ref (a 5), .int x1]) (n := 3) (Nat.le_of_ble_eq_true rfl)
  rw [lg_entry_eq]
  generalize (lg_sl ([.ref (a 5), .int x1]) ++ List.replicate (3 - (lg_sl ([.ref (a 5), .int x1])).length) Slot.unset).toArray = ls at hl ⊢
  have hl : lv_has ls 3 [(0, .ref (a 5)), (1, .int x1)] := hl
  generalize hZ : tz_MQ below (tq_Q (q_En_isAmongOthers dC dI cI cJ a he dp co li op wd tl lc fo sf lf nf x1) (ga (adC a) s.heap.size)) ([.ref (a 5), .int x1] : List Value).toArray s 0 0 0 0 (ga (adC a) s.heap.size) = Z
  obtain ⟨A, hAe⟩ : ∃ A, A = ga (adC a) s.heap.size := ⟨_, rfl⟩
  rw [← hAe] at hst hAC hA0 hI hZ
  refine sv_start hI (fun H locs hI => ?_)
  obtain ⟨⟨o1, o2⟩, ⟨o3, o4⟩, ⟨o5, o6⟩, ⟨o7, o8⟩, ⟨o9, o10⟩, ⟨o11, o12⟩, ⟨o13, o14⟩, ⟨o15, o16⟩, ⟨o17, o18⟩, o19, -, -⟩ := id hok
  have gx1 := sn_rng x1
  have j2 : ∀ (n : Nat) (H : Heap) (locs : List Loc) (ls : Array Slot) (v2_2 : Int32), sI (dC, dI) vcl cI cJ (gsC a he dp co li op wd tl lc fo sf lf nf) A s.heap H locs → okC he dp co li op wd tl lc fo sf lf nf → 1 ≤ v2_2.toInt → v2_2.toInt ≤ 4 → lv_has ls 3 [(0, .ref (a 5)), (1, .int x1), (2, .int v2_2)] → 4 - v2_2.toInt < (n : Int) → W p l e (headSpec tw_tbl rm_En_isAmongOthers).room s m ([.ref (a 5), .int x1] : List Value).toArray below meth c H locs 0 0 Z (F0 m 2 ls []) := by
    intro n
    induction n with
    | zero => intro H locs ls v2_2 hI hok g2_0 g2_1 hl hme; exfalso; obtain ⟨⟨o20, o21⟩, ⟨o22, o23⟩, ⟨o24, o25⟩, ⟨o26, o27⟩, ⟨o28, o29⟩, ⟨o30, o31⟩, ⟨o32, o33⟩, ⟨o34, o35⟩, ⟨o36, o37⟩, o38, -, -⟩ := id hok; omega
    | succ n ih =>
      intro H locs ls v2_2 hI hok g2_0 g2_1 hl hme
      obtain ⟨⟨o39, o40⟩, ⟨o41, o42⟩, ⟨o43, o44⟩, ⟨o45, o46⟩, ⟨o47, o48⟩, ⟨o49, o50⟩, ⟨o51, o52⟩, ⟨o53, o54⟩, ⟨o55, o56⟩, o57, -, -⟩ := id hok
      refine lv_iload_n hx hb d_En_isAmongOthers_2 rfl (lv_at hl 2 rfl) ?_
      refine lv_aload_n hx hb d_En_isAmongOthers_3 rfl (lv_at hl 0 rfl) ?_
      refine sv_getr (C := "StoryMachine$Engine") (T := T_En) (N := 15) hx hb hts in_En hown hK hI 5 kC_5 rfl 7 (by decide) (hts _ mw_268) rfl d_En_isAmongOthers_4 ?_
      refine sv_gete (C := "StoryMachine$Instruction") (T := T_In) (N := 11) hx hb hts in_In hown hK hI 19 kC_19 rfl 3 (by decide) (hts _ mw_224) rfl d_En_isAmongOthers_7 (fun z58 hz58 => ?_)
      refine sn_icmp_ge (tgt := 34) hx hb d_En_isAmongOthers_10 (by decide) (fun b59 => ?_) (fun b59 => ?_)
      · refine sn_iconst hx hb d_En_isAmongOthers_34 (by decide) (fun z60 hz60 => ?_)
        subst hZ
        exact tz_ret (W.zret (v := z60) hx hb hr (sn_bool (by omega) (by omega)).1 (fun t ht hW => ⟨⟨fun v9 hv9 => by cases hv9; exact (Or.inl ⟨z60, rfl, hok, by omega, by omega, by rw [ht]; exact hI.1⟩), fun x9 hx9 => (by cases hx9)⟩, hI.2.F ht⟩) hI.2.2.2 d_En_isAmongOthers_35)
      · refine lv_aload_n hx hb d_En_isAmongOthers_13 rfl (lv_at hl 0 rfl) ?_
        refine sv_getr (C := "StoryMachine$Engine") (T := T_En) (N := 15) hx hb hts in_En hown hK hI 5 kC_5 rfl 7 (by decide) (hts _ mw_268) rfl d_En_isAmongOthers_14 ?_
        refine sv_getr (C := "StoryMachine$Instruction") (T := T_In) (N := 11) hx hb hts in_In hown hK hI 19 kC_19 rfl 2 (by decide) (hts _ mw_222) rfl d_En_isAmongOthers_17 ?_
        refine lv_iload_n hx hb d_En_isAmongOthers_20 rfl (lv_at hl 2 rfl) ?_
        refine sv_ialdr hx hb hK hI 25 kC_25 (by omega) (by omega) d_En_isAmongOthers_21 (fun z61 hz61a hz61b => ?_)
        refine lv_iload_n hx hb d_En_isAmongOthers_22 rfl (lv_at hl 1 rfl) ?_
        refine sn_icmp_ne (tgt := 28) hx hb d_En_isAmongOthers_23 (by decide) (fun b62 => ?_) (fun b62 => ?_)
        · refine sn_iinc (k := 2) hx hb d_En_isAmongOthers_28 hl rfl (by decide) (by decide) (by omega) (by omega) (fun ls z63 hz63 hl => ?_)
          have hl : lv_has ls 3 [(2, .int z63), (0, .ref (a 5)), (1, .int x1)] := hl
          refine lv_goto (tgt := 2) hx hb d_En_isAmongOthers_31 (by decide) ?_
          exact ih _ _ _ z63 hI hok (by omega) (by omega) (lv_sub hl [1, 2, 0] rfl) (by omega)
        · refine sn_iconst hx hb d_En_isAmongOthers_26 (by decide) (fun z64 hz64 => ?_)
          subst hZ
          exact tz_ret (W.zret (v := z64) hx hb hr (sn_bool (by omega) (by omega)).1 (fun t ht hW => ⟨⟨fun v9 hv9 => by cases hv9; exact (Or.inr (⟨z64, rfl, hok, by omega, by omega, by omega, by rw [ht]; exact hI.1⟩)), fun x9 hx9 => (by cases hx9)⟩, hI.2.F ht⟩) hI.2.2.2 d_En_isAmongOthers_27)
  refine sn_iconst hx hb d_En_isAmongOthers_0 (by decide) (fun z65 hz65 => ?_)
  refine lv_istore_n (lv' := [(2, .int z65), (0, .ref (a 5)), (1, .int x1)]) hx hb d_En_isAmongOthers_1 rfl hl (by decide) rfl (fun ls hl => ?_)
  exact j2 4 _ _ _ z65 hI hok (by omega) (by omega) (lv_sub hl [1, 2, 0] rfl) (by omega)
