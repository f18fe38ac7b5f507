abbrev q_In_decodeHead (dC : Nat → ClassId) (dI : Nat → Nat → Nat) (cI cJ : ClassId) (a : Nat → Nat) (he dp co li op wd tl lc fo : Int) (sf lf nf : Nat → Int32) : Outcome → State → Prop := fun o t => (∀ v, o = .returned v → ((∃ (z : Int32) (li_ op_ : Int), v = some (.int z) ∧ okC he dp co li_ op_ wd tl lc fo sf lf nf ∧ ((-2147483648) ≤ z.toInt) ∧ (z.toInt ≤ 2147483647) ∧ sh_I (dC, dI) vcl cI cJ (gsC a he dp co li_ op_ wd tl lc fo sf lf nf) t.heap))) ∧ (∀ x, o = .threw x → ((∃ (li_ op_ : Int), ta_Ex "java/lang/IllegalArgumentException" x t ∧ okC he dp co li_ op_ wd tl lc fo sf lf nf ∧ sh_I (dC, dI) vcl cI cJ (gsC a he dp co li_ op_ wd tl lc fo sf lf nf) t.heap)))
def rm_In_decodeHead : Room := { frames := 9, cells := 1, slots := 6, locals := 172 }
set_option maxHeartbeats 4000000 in
set_option maxRecDepth 100000 in
theorem c_In_decodeHead (l : Launch) (hfl : l.flags = pinnedFlags ++ [noTraceFlag]) (dC : Nat → ClassId) (dI : Nat → Nat → Nat) (cI cJ : ClassId) (a : Nat → Nat) (sz : Nat) (he dp co li op wd tl lc fo : Int) (sf lf nf : Nat → Int32) (hok : okC he dp co li op wd tl lc fo sf lf nf) : tz_Met l ⟨"StoryMachine$Instruction", "decodeHead", "()I"⟩ tw_tbl rm_In_decodeHead (tzP (dC, dI) vcl cI cJ (gsC a he dp co li op wd tl lc fo sf lf nf) a (adC a) [.ref (a 19)] sz) (tq_Q (q_In_decodeHead dC dI cI cJ a he dp co li op wd tl lc fo sf lf nf) (ga (adC a) sz)) 0 0 1 6 (ga (adC a) sz) := by
  refine tz_ofW (cc := prog_5_method_5_code) (maxL := 4) (ret := (some .int)) (by decide) (tx_isM mw_503) ?_
  intro p e s m args below meth c s₁ B hml hv
  obtain ⟨rfl, hsz, hI0, hK, hst0⟩ := hv
  have hx := B.exec
  have hb := B.bytes
  have hr := B.returns
  have hts := atoms_spec (ws := tw_tbl) B.pre
  have hown : s.vm.findClass "StoryMachine$Instruction" = some m.cls := findClass_of_methodNamed B.named
  have hlocks := B.notSynchronized
  subst hsz
  have hst := fun (H : Heap) (locs : List Loc) (hS : va_S (ga (adC a) s.heap.size) s.heap H locs) (U : State) (hU : U.heap = H) (hW : s.WarmedH U.vm) => zS_all adC_map hI0 hst0 hS hU hW
  have hAC : ∀ q ∈ adC a, ga (adC a) s.heap.size q := fun q h => Or.inl h
  have hA0 : ∀ q, s.heap.size ≤ q → ga (adC a) s.heap.size q := fun q h => Or.inr h
  have hI : sI (dC, dI) vcl cI cJ (gsC a he dp co li op wd tl lc fo sf lf nf) (ga (adC a) s.heap.size) s.heap s.heap [] := ⟨hI0, va_S.rf⟩
  clear hI0 hst0
  have hl := lv_entry ([.ref (a 19)]) (n := 4) (Nat.le_of_ble_eq_true rfl)
  rw [lg_entry_eq]
  generalize (lg_sl ([.ref (a 19)]) ++ List.replicate (4 - (lg_sl ([.ref (a 19)])).length) Slot.unset).toArray = ls at hl ⊢
  have hl : lv_has ls 4 [(0, .ref (a 19))] := hl
  generalize hZ : tz_MQ below (tq_Q (q_In_decodeHead dC dI cI cJ a he dp co li op wd tl lc fo sf lf nf) (ga (adC a) s.heap.size)) ([.ref (a 19)] : List Value).toArray s 0 0 1 6 (ga (adC a) s.heap.size) = Z
  obtain ⟨A, hAe⟩ : ∃ A, A = ga (adC a) s.heap.size := ⟨_, rfl⟩
  rw [← hAe] at hst hAC hA0 hI hZ
  refine sv_start hI (fun H locs hI => ?_)
  obtain ⟨⟨o1, o2⟩, ⟨o3, o4⟩, ⟨o5, o6⟩, ⟨o7, o8⟩, ⟨o9, o10⟩, ⟨o11, o12⟩, ⟨o13, o14⟩, ⟨o15, o16⟩, ⟨o17, o18⟩, o19, -, -⟩ := id hok
  refine lv_aload_n hx hb d_In_decodeHead_0 rfl (lv_at hl 0 rfl) ?_
  refine tz_call (A1 := ga (adC a) H.size) (tz_runV (C := "StoryMachine$Instruction") (As := []) (rest := []) ⟨hx, hb, hml, hown, hts⟩ (c_In_nextByte l hfl dC dI cI cJ a H.size he dp co li op wd tl lc fo sf lf nf  hok) (tx_cb (n := 0) hts rfl rfl ⟨Nat.le_of_ble_eq_true rfl, Nat.le_of_ble_eq_true rfl⟩ (tx_code.of (hts _ mw_507)) (hts _ mw_11) (by decide +kernel) (hts _ mw_504)) (hts _ mw_506) (hts _ ms_In_nextByte) ⟨tz_blind, sv_recv (q0 := 19) hts in_In hK hI kC_19 rfl, fun U hU hW => ⟨rfl, by rw [hU], by rw [hU]; exact hI.1, va_K.moved hW.alike hK, hst _ _ hI.2 U hU hW⟩⟩ rfl rfl hl.1 rfl (lv_room (Nat.le_of_ble_eq_true rfl)) d_In_decodeHead_1 ⟨Nat.le_of_ble_eq_true rfl, Nat.le_of_ble_eq_true rfl⟩) hI.2 (fun q _ h => ga_sub hAC hA0 hI.2 q h) (ga_sub hAC hA0 hI.2) (fun v t H1 locs1 ht hWt hpost _ _ hS => ?_) (fun x t H1 locs1 ht hWt hpost _ _ hS => ?_)
  · rcases hpost.1 _ rfl with ⟨z20, hv, c21, c21_0, c21_1, hI1⟩
    cases hv
    have hI : sI (dC, dI) vcl cI cJ (gsC a he dp co li op wd tl lc fo sf lf nf) A s.heap H1 locs1 := ⟨by rw [← ht]; exact hI1, hS⟩
    clear hpost hI1 hS ht hWt
    revert hI; generalize H1 = H; generalize locs1 = locs; intro hI
    refine lv_istore_n (lv' := [(1, .int z20), (0, .ref (a 19))]) hx hb d_In_decodeHead_4 rfl hl (by decide) rfl (fun ls hl => ?_)
    refine lv_iload_n hx hb d_In_decodeHead_5 rfl (lv_at hl 0 rfl) ?_
    refine sn_sipush hx hb d_In_decodeHead_6 (by decide) (fun z22 hz22 => ?_)
    refine sn_icmp_ge (tgt := 63) hx hb d_In_decodeHead_9 (by decide) (fun b23 => ?_) (fun b23 => ?_)
    · refine lv_iload_n hx hb d_In_decodeHead_63 rfl (lv_at hl 0 rfl) ?_
      refine sn_sipush hx hb d_In_decodeHead_64 (by decide) (fun z24 hz24 => ?_)
      refine sn_icmp_ge (tgt := 106) hx hb d_In_decodeHead_67 (by decide) (fun b25 => ?_) (fun b25 => ?_)
      · refine lv_aload_n hx hb d_In_decodeHead_106 rfl (lv_at hl 1 rfl) ?_
        refine lv_iload_n hx hb d_In_decodeHead_107 rfl (lv_at hl 0 rfl) ?_
        refine sn_sipush hx hb d_In_decodeHead_108 (by decide) (fun z26 hz26 => ?_)
        refine sn_icmp_ge (tgt := 118) hx hb d_In_decodeHead_111 (by decide) (fun b27 => ?_) (fun b27 => ?_)
        · refine sn_iconst hx hb d_In_decodeHead_118 (by decide) (fun z28 hz28 => ?_)
          refine sv_put (C := "StoryMachine$Instruction") (T := T_In) (N := 11) (ty := .int) hx hb hts in_In t_In tk_In nm_In hown hK (sh_in adC_map hAC) hI 19 kC_19 rfl 4 (by decide) (hts _ mw_226) rfl (by decide +kernel) rfl rfl (Nat.le_of_ble_eq_true rfl) (Int.le_refl _) (Int.le_refl _) pC_19_4 d_In_decodeHead_119 (fun H locs hI => ?_)
          refine lv_aload_n hx hb d_In_decodeHead_122 rfl (lv_at hl 1 rfl) ?_
          refine lv_iload_n hx hb d_In_decodeHead_123 rfl (lv_at hl 0 rfl) ?_
          refine sn_bipush hx hb d_In_decodeHead_124 (by decide) (fun z29 hz29 => ?_)
          refine sn_irem (k := 32) hx hb d_In_decodeHead_126 (by omega) (by omega) (by omega) (fun z30 hz30 => ?_)
          refine sv_put (C := "StoryMachine$Instruction") (T := T_In) (N := 11) (ty := .int) hx hb hts in_In t_In tk_In nm_In hown hK (sh_in adC_map hAC) hI 19 kC_19 rfl 5 (by decide) (hts _ mw_228) rfl (by decide +kernel) rfl rfl (Nat.le_of_ble_eq_true rfl) (Int.le_refl _) (Int.le_refl _) pC_19_5 d_In_decodeHead_127 (fun H locs hI => ?_)
          refine lv_aload_n hx hb d_In_decodeHead_130 rfl (lv_at hl 1 rfl) ?_
          have ho31 : okC he dp co z28.toInt z30.toInt wd tl lc fo sf lf nf := ⟨c21.1, c21.2.1, c21.2.2.1, ⟨by omega, by omega⟩, ⟨by omega, by omega⟩, c21.2.2.2.2.2.1, c21.2.2.2.2.2.2.1, c21.2.2.2.2.2.2.2.1, c21.2.2.2.2.2.2.2.2.1, by omega, c21.2.2.2.2.2.2.2.2.2.2.1, c21.2.2.2.2.2.2.2.2.2.2.2⟩
          refine tz_call (A1 := ga (adC a) H.size) (tz_runV (C := "StoryMachine$Instruction") (As := []) (rest := []) ⟨hx, hb, hml, hown, hts⟩ (c_In_nextByte l hfl dC dI cI cJ a H.size he dp co z28.toInt z30.toInt wd tl lc fo sf lf nf  ho31) (tx_cb (n := 0) hts rfl rfl ⟨Nat.le_of_ble_eq_true rfl, Nat.le_of_ble_eq_true rfl⟩ (tx_code.of (hts _ mw_507)) (hts _ mw_11) (by decide +kernel) (hts _ mw_504)) (hts _ mw_506) (hts _ ms_In_nextByte) ⟨tz_blind, sv_recv (q0 := 19) hts in_In hK hI kC_19 rfl, fun U hU hW => ⟨rfl, by rw [hU], by rw [hU]; exact hI.1, va_K.moved hW.alike hK, hst _ _ hI.2 U hU hW⟩⟩ rfl rfl hl.1 rfl (lv_room (Nat.le_of_ble_eq_true rfl)) d_In_decodeHead_131 ⟨Nat.le_of_ble_eq_true rfl, Nat.le_of_ble_eq_true rfl⟩) hI.2 (fun q _ h => ga_sub hAC hA0 hI.2 q h) (ga_sub hAC hA0 hI.2) (fun v t H1 locs1 ht hWt hpost _ _ hS => ?_) (fun x t H1 locs1 ht hWt hpost _ _ hS => ?_)
          · rcases hpost.1 _ rfl with ⟨z32, hv, c33, c33_0, c33_1, hI1⟩
            cases hv
            have hI : sI (dC, dI) vcl cI cJ (gsC a he dp co z28.toInt z30.toInt wd tl lc fo sf lf nf) A s.heap H1 locs1 := ⟨by rw [← ht]; exact hI1, hS⟩
            clear hpost hI1 hS ht hWt
            revert hI; generalize H1 = H; generalize locs1 = locs; intro hI
            subst hZ
            exact tz_ret (W.iret (v := z32) hx hb hr (fun t ht hW => ⟨⟨fun v9 hv9 => by cases hv9; exact (⟨z32, z28.toInt, z30.toInt, rfl, c33, by omega, by omega, by rw [ht]; exact hI.1⟩), fun x9 hx9 => (by cases hx9)⟩, hI.2.F ht⟩) hI.2.2.2 d_In_decodeHead_134)
          · rcases hpost.2 _ rfl with ⟨hex, c34, hI1⟩
            have hI : sI (dC, dI) vcl cI cJ (gsC a he dp co z28.toInt z30.toInt wd tl lc fo sf lf nf) A s.heap H1 locs1 := ⟨by rw [← ht]; exact hI1, hS⟩
            refine tz_widen (k := 1) (n := 6) (Nat.le_of_ble_eq_true rfl) (Nat.le_of_ble_eq_true rfl) ?_
            subst hZ
            exact tz_leave (tx_noH B (hts _ mw_503) _) (fun t9 ht9 hW9 => ⟨⟨fun v9 hv9 => (by cases hv9), fun x9 hx9 => by cases hx9; exact (⟨z28.toInt, z30.toInt, ta_exm hex ht ht9 hWt hW9, c34, by rw [ht9]; exact hI.1⟩)⟩, hI.2.F ht9⟩) hI.2.2.2 hlocks
        · refine sn_iconst hx hb d_In_decodeHead_114 (by decide) (fun z35 hz35 => ?_)
          refine lv_goto (tgt := 119) hx hb d_In_decodeHead_115 (by decide) ?_
          refine sv_put (C := "StoryMachine$Instruction") (T := T_In) (N := 11) (ty := .int) hx hb hts in_In t_In tk_In nm_In hown hK (sh_in adC_map hAC) hI 19 kC_19 rfl 4 (by decide) (hts _ mw_226) rfl (by decide +kernel) rfl rfl (Nat.le_of_ble_eq_true rfl) (Int.le_refl _) (Int.le_refl _) pC_19_4 d_In_decodeHead_119 (fun H locs hI => ?_)
          refine lv_aload_n hx hb d_In_decodeHead_122 rfl (lv_at hl 1 rfl) ?_
          refine lv_iload_n hx hb d_In_decodeHead_123 rfl (lv_at hl 0 rfl) ?_
          refine sn_bipush hx hb d_In_decodeHead_124 (by decide) (fun z36 hz36 => ?_)
          refine sn_irem (k := 32) hx hb d_In_decodeHead_126 (by omega) (by omega) (by omega) (fun z37 hz37 => ?_)
          refine sv_put (C := "StoryMachine$Instruction") (T := T_In) (N := 11) (ty := .int) hx hb hts in_In t_In tk_In nm_In hown hK (sh_in adC_map hAC) hI 19 kC_19 rfl 5 (by decide) (hts _ mw_228) rfl (by decide +kernel) rfl rfl (Nat.le_of_ble_eq_true rfl) (Int.le_refl _) (Int.le_refl _) pC_19_5 d_In_decodeHead_127 (fun H locs hI => ?_)
          refine lv_aload_n hx hb d_In_decodeHead_130 rfl (lv_at hl 1 rfl) ?_
          have ho38 : okC he dp co z35.toInt z37.toInt wd tl lc fo sf lf nf := ⟨c21.1, c21.2.1, c21.2.2.1, ⟨by omega, by omega⟩, ⟨by omega, by omega⟩, c21.2.2.2.2.2.1, c21.2.2.2.2.2.2.1, c21.2.2.2.2.2.2.2.1, c21.2.2.2.2.2.2.2.2.1, by omega, c21.2.2.2.2.2.2.2.2.2.2.1, c21.2.2.2.2.2.2.2.2.2.2.2⟩
          refine tz_call (A1 := ga (adC a) H.size) (tz_runV (C := "StoryMachine$Instruction") (As := []) (rest := []) ⟨hx, hb, hml, hown, hts⟩ (c_In_nextByte l hfl dC dI cI cJ a H.size he dp co z35.toInt z37.toInt wd tl lc fo sf lf nf  ho38) (tx_cb (n := 0) hts rfl rfl ⟨Nat.le_of_ble_eq_true rfl, Nat.le_of_ble_eq_true rfl⟩ (tx_code.of (hts _ mw_507)) (hts _ mw_11) (by decide +kernel) (hts _ mw_504)) (hts _ mw_506) (hts _ ms_In_nextByte) ⟨tz_blind, sv_recv (q0 := 19) hts in_In hK hI kC_19 rfl, fun U hU hW => ⟨rfl, by rw [hU], by rw [hU]; exact hI.1, va_K.moved hW.alike hK, hst _ _ hI.2 U hU hW⟩⟩ rfl rfl hl.1 rfl (lv_room (Nat.le_of_ble_eq_true rfl)) d_In_decodeHead_131 ⟨Nat.le_of_ble_eq_true rfl, Nat.le_of_ble_eq_true rfl⟩) hI.2 (fun q _ h => ga_sub hAC hA0 hI.2 q h) (ga_sub hAC hA0 hI.2) (fun v t H1 locs1 ht hWt hpost _ _ hS => ?_) (fun x t H1 locs1 ht hWt hpost _ _ hS => ?_)
          · rcases hpost.1 _ rfl with ⟨z39, hv, c40, c40_0, c40_1, hI1⟩
            cases hv
            have hI : sI (dC, dI) vcl cI cJ (gsC a he dp co z35.toInt z37.toInt wd tl lc fo sf lf nf) A s.heap H1 locs1 := ⟨by rw [← ht]; exact hI1, hS⟩
            clear hpost hI1 hS ht hWt
            revert hI; generalize H1 = H; generalize locs1 = locs; intro hI
            subst hZ
            exact tz_ret (W.iret (v := z39) hx hb hr (fun t ht hW => ⟨⟨fun v9 hv9 => by cases hv9; exact (⟨z39, z35.toInt, z37.toInt, rfl, c40, by omega, by omega, by rw [ht]; exact hI.1⟩), fun x9 hx9 => (by cases hx9)⟩, hI.2.F ht⟩) hI.2.2.2 d_In_decodeHead_134)
          · rcases hpost.2 _ rfl with ⟨hex, c41, hI1⟩
            have hI : sI (dC, dI) vcl cI cJ (gsC a he dp co z35.toInt z37.toInt wd tl lc fo sf lf nf) A s.heap H1 locs1 := ⟨by rw [← ht]; exact hI1, hS⟩
            refine tz_widen (k := 1) (n := 6) (Nat.le_of_ble_eq_true rfl) (Nat.le_of_ble_eq_true rfl) ?_
            subst hZ
            exact tz_leave (tx_noH B (hts _ mw_503) _) (fun t9 ht9 hW9 => ⟨⟨fun v9 hv9 => (by cases hv9), fun x9 hx9 => by cases hx9; exact (⟨z35.toInt, z37.toInt, ta_exm hex ht ht9 hWt hW9, c41, by rw [ht9]; exact hI.1⟩)⟩, hI.2.F ht9⟩) hI.2.2.2 hlocks
      · refine lv_iload_n hx hb d_In_decodeHead_70 rfl (lv_at hl 0 rfl) ?_
        refine sn_iconst hx hb d_In_decodeHead_71 (by decide) (fun z42 hz42 => ?_)
        refine sn_ishrT hx hb d_In_decodeHead_72 (fun z43 hz43a hz43b => ?_)
        refine sn_iconst hx hb d_In_decodeHead_73 (by decide) (fun z44 hz44 => ?_)
        refine sn_iand (k := 2) (M := 3) hx hb d_In_decodeHead_74 (by decide) (by decide) (by omega) (fun z45 hz45a hz45b hz45c => ?_)
        clear hz45c
        refine lv_istore_n (lv' := [(2, .int z45), (1, .int z20), (0, .ref (a 19))]) hx hb d_In_decodeHead_75 rfl hl (by decide) rfl (fun ls hl => ?_)
        refine lv_aload_n hx hb d_In_decodeHead_76 rfl (lv_at hl 2 rfl) ?_
        refine lv_iload_n hx hb d_In_decodeHead_77 rfl (lv_at hl 0 rfl) ?_
        refine sn_iconst hx hb d_In_decodeHead_78 (by decide) (fun z46 hz46 => ?_)
        refine sn_icmp_ne (tgt := 86) hx hb d_In_decodeHead_79 (by decide) (fun b47 => ?_) (fun b47 => ?_)
        · refine sn_iconst hx hb d_In_decodeHead_86 (by decide) (fun z48 hz48 => ?_)
          refine sv_put (C := "StoryMachine$Instruction") (T := T_In) (N := 11) (ty := .int) hx hb hts in_In t_In tk_In nm_In hown hK (sh_in adC_map hAC) hI 19 kC_19 rfl 4 (by decide) (hts _ mw_226) rfl (by decide +kernel) rfl rfl (Nat.le_of_ble_eq_true rfl) (Int.le_refl _) (Int.le_refl _) pC_19_4 d_In_decodeHead_87 (fun H locs hI => ?_)
          refine lv_aload_n hx hb d_In_decodeHead_90 rfl (lv_at hl 2 rfl) ?_
          refine lv_iload_n hx hb d_In_decodeHead_91 rfl (lv_at hl 1 rfl) ?_
          refine sn_bipush hx hb d_In_decodeHead_92 (by decide) (fun z49 hz49 => ?_)
          refine sn_irem (k := 16) hx hb d_In_decodeHead_94 (by omega) (by omega) (by omega) (fun z50 hz50 => ?_)
          refine sv_put (C := "StoryMachine$Instruction") (T := T_In) (N := 11) (ty := .int) hx hb hts in_In t_In tk_In nm_In hown hK (sh_in adC_map hAC) hI 19 kC_19 rfl 5 (by decide) (hts _ mw_228) rfl (by decide +kernel) rfl rfl (Nat.le_of_ble_eq_true rfl) (Int.le_refl _) (Int.le_refl _) pC_19_5 d_In_decodeHead_95 (fun H locs hI => ?_)
          refine lv_iload_n hx hb d_In_decodeHead_98 rfl (lv_at hl 0 rfl) ?_
          refine sn_bipush hx hb d_In_decodeHead_99 (by decide) (fun z51 hz51 => ?_)
          refine sn_ishlT hx hb d_In_decodeHead_101 (fun z52 hz52a hz52b => ?_)
          refine sn_bipush hx hb d_In_decodeHead_102 (by decide) (fun z53 hz53 => ?_)
          refine sn_iorT hx hb d_In_decodeHead_104 (fun z54 hz54a hz54b => ?_)
          have ho55 : okC he dp co z48.toInt z50.toInt wd tl lc fo sf lf nf := ⟨c21.1, c21.2.1, c21.2.2.1, ⟨by omega, by omega⟩, ⟨by omega, by omega⟩, c21.2.2.2.2.2.1, c21.2.2.2.2.2.2.1, c21.2.2.2.2.2.2.2.1, c21.2.2.2.2.2.2.2.2.1, by omega, c21.2.2.2.2.2.2.2.2.2.2.1, c21.2.2.2.2.2.2.2.2.2.2.2⟩
          subst hZ
          exact tz_ret (W.iret (v := z54) hx hb hr (fun t ht hW => ⟨⟨fun v9 hv9 => by cases hv9; exact (⟨z54, z48.toInt, z50.toInt, rfl, ho55, by omega, by omega, by rw [ht]; exact hI.1⟩), fun x9 hx9 => (by cases hx9)⟩, hI.2.F ht⟩) hI.2.2.2 d_In_decodeHead_105)
        · refine sn_iconst hx hb d_In_decodeHead_82 (by decide) (fun z56 hz56 => ?_)
          refine lv_goto (tgt := 87) hx hb d_In_decodeHead_83 (by decide) ?_
          refine sv_put (C := "StoryMachine$Instruction") (T := T_In) (N := 11) (ty := .int) hx hb hts in_In t_In tk_In nm_In hown hK (sh_in adC_map hAC) hI 19 kC_19 rfl 4 (by decide) (hts _ mw_226) rfl (by decide +kernel) rfl rfl (Nat.le_of_ble_eq_true rfl) (Int.le_refl _) (Int.le_refl _) pC_19_4 d_In_decodeHead_87 (fun H locs hI => ?_)
          refine lv_aload_n hx hb d_In_decodeHead_90 rfl (lv_at hl 2 rfl) ?_
          refine lv_iload_n hx hb d_In_decodeHead_91 rfl (lv_at hl 1 rfl) ?_
          refine sn_bipush hx hb d_In_decodeHead_92 (by decide) (fun z57 hz57 => ?_)
          refine sn_irem (k := 16) hx hb d_In_decodeHead_94 (by omega) (by omega) (by omega) (fun z58 hz58 => ?_)
          refine sv_put (C := "StoryMachine$Instruction") (T := T_In) (N := 11) (ty := .int) hx hb hts in_In t_In tk_In nm_In hown hK (sh_in adC_map hAC) hI 19 kC_19 rfl 5 (by decide) (hts _ mw_228) rfl (by decide +kernel) rfl rfl (Nat.le_of_ble_eq_true rfl) (Int.le_refl _) (Int.le_refl _) pC_19_5 d_In_decodeHead_95 (fun H locs hI => ?_)
          refine lv_iload_n hx hb d_In_decodeHead_98 rfl (lv_at hl 0 rfl) ?_
          refine sn_bipush hx hb d_In_decodeHead_99 (by decide) (fun z59 hz59 => ?_)
          refine sn_ishlT hx hb d_In_decodeHead_101 (fun z60 hz60a hz60b => ?_)
          refine sn_bipush hx hb d_In_decodeHead_102 (by decide) (fun z61 hz61 => ?_)
          refine sn_iorT hx hb d_In_decodeHead_104 (fun z62 hz62a hz62b => ?_)
          have ho63 : okC he dp co z56.toInt z58.toInt wd tl lc fo sf lf nf := ⟨c21.1, c21.2.1, c21.2.2.1, ⟨by omega, by omega⟩, ⟨by omega, by omega⟩, c21.2.2.2.2.2.1, c21.2.2.2.2.2.2.1, c21.2.2.2.2.2.2.2.1, c21.2.2.2.2.2.2.2.2.1, by omega, c21.2.2.2.2.2.2.2.2.2.2.1, c21.2.2.2.2.2.2.2.2.2.2.2⟩
          subst hZ
          exact tz_ret (W.iret (v := z62) hx hb hr (fun t ht hW => ⟨⟨fun v9 hv9 => by cases hv9; exact (⟨z62, z56.toInt, z58.toInt, rfl, ho63, by omega, by omega, by rw [ht]; exact hI.1⟩), fun x9 hx9 => (by cases hx9)⟩, hI.2.F ht⟩) hI.2.2.2 d_In_decodeHead_105)
    · refine lv_aload_n hx hb d_In_decodeHead_12 rfl (lv_at hl 1 rfl) ?_
      refine sn_iconst hx hb d_In_decodeHead_13 (by decide) (fun z64 hz64 => ?_)
      refine sv_put (C := "StoryMachine$Instruction") (T := T_In) (N := 11) (ty := .int) hx hb hts in_In t_In tk_In nm_In hown hK (sh_in adC_map hAC) hI 19 kC_19 rfl 4 (by decide) (hts _ mw_226) rfl (by decide +kernel) rfl rfl (Nat.le_of_ble_eq_true rfl) (Int.le_refl _) (Int.le_refl _) pC_19_4 d_In_decodeHead_14 (fun H locs hI => ?_)
      refine lv_aload_n hx hb d_In_decodeHead_17 rfl (lv_at hl 1 rfl) ?_
      refine lv_iload_n hx hb d_In_decodeHead_18 rfl (lv_at hl 0 rfl) ?_
      refine sn_bipush hx hb d_In_decodeHead_19 (by decide) (fun z65 hz65 => ?_)
      refine sn_irem (k := 32) hx hb d_In_decodeHead_21 (by omega) (by omega) (by omega) (fun z66 hz66 => ?_)
      refine sv_put (C := "StoryMachine$Instruction") (T := T_In) (N := 11) (ty := .int) hx hb hts in_In t_In tk_In nm_In hown hK (sh_in adC_map hAC) hI 19 kC_19 rfl 5 (by decide) (hts _ mw_228) rfl (by decide +kernel) rfl rfl (Nat.le_of_ble_eq_true rfl) (Int.le_refl _) (Int.le_refl _) pC_19_5 d_In_decodeHead_22 (fun H locs hI => ?_)
      refine lv_iload_n hx hb d_In_decodeHead_25 rfl (lv_at hl 0 rfl) ?_
      refine sn_bipush hx hb d_In_decodeHead_26 (by decide) (fun z67 hz67 => ?_)
      refine sn_iandT hx hb d_In_decodeHead_28 (fun z68 hz68a hz68b => ?_)
      refine sn_if_eq (tgt := 36) hx hb d_In_decodeHead_29 (by decide) (fun b69 => ?_) (fun b69 => ?_)
      · refine sn_iconst hx hb d_In_decodeHead_36 (by decide) (fun z70 hz70 => ?_)
        refine lv_istore_n (lv' := [(2, .int z70), (1, .int z20), (0, .ref (a 19))]) hx hb d_In_decodeHead_37 rfl hl (by decide) rfl (fun ls hl => ?_)
        refine lv_iload_n hx hb d_In_decodeHead_38 rfl (lv_at hl 1 rfl) ?_
        refine sn_bipush hx hb d_In_decodeHead_39 (by decide) (fun z71 hz71 => ?_)
        refine sn_iandT hx hb d_In_decodeHead_41 (fun z72 hz72a hz72b => ?_)
        refine sn_if_eq (tgt := 49) hx hb d_In_decodeHead_42 (by decide) (fun b73 => ?_) (fun b73 => ?_)
        · refine sn_iconst hx hb d_In_decodeHead_49 (by decide) (fun z74 hz74 => ?_)
          refine lv_istore_n (lv' := [(3, .int z74), (2, .int z70), (1, .int z20), (0, .ref (a 19))]) hx hb d_In_decodeHead_50 rfl hl (by decide) rfl (fun ls hl => ?_)
          refine lv_iload_n hx hb d_In_decodeHead_51 rfl (lv_at hl 1 rfl) ?_
          refine sn_bipush hx hb d_In_decodeHead_52 (by decide) (fun z75 hz75 => ?_)
          refine sn_ishlT hx hb d_In_decodeHead_54 (fun z76 hz76a hz76b => ?_)
          refine lv_iload_n hx hb d_In_decodeHead_55 rfl (lv_at hl 0 rfl) ?_
          refine sn_iconst hx hb d_In_decodeHead_56 (by decide) (fun z77 hz77 => ?_)
          refine sn_ishlT hx hb d_In_decodeHead_57 (fun z78 hz78a hz78b => ?_)
          refine sn_iorT hx hb d_In_decodeHead_58 (fun z79 hz79a hz79b => ?_)
          refine sn_bipush hx hb d_In_decodeHead_59 (by decide) (fun z80 hz80 => ?_)
          refine sn_iorT hx hb d_In_decodeHead_61 (fun z81 hz81a hz81b => ?_)
          have ho82 : okC he dp co z64.toInt z66.toInt wd tl lc fo sf lf nf := ⟨c21.1, c21.2.1, c21.2.2.1, ⟨by omega, by omega⟩, ⟨by omega, by omega⟩, c21.2.2.2.2.2.1, c21.2.2.2.2.2.2.1, c21.2.2.2.2.2.2.2.1, c21.2.2.2.2.2.2.2.2.1, by omega, c21.2.2.2.2.2.2.2.2.2.2.1, c21.2.2.2.2.2.2.2.2.2.2.2⟩
          subst hZ
          exact tz_ret (W.iret (v := z81) hx hb hr (fun t ht hW => ⟨⟨fun v9 hv9 => by cases hv9; exact (⟨z81, z64.toInt, z66.toInt, rfl, ho82, by omega, by omega, by rw [ht]; exact hI.1⟩), fun x9 hx9 => (by cases hx9)⟩, hI.2.F ht⟩) hI.2.2.2 d_In_decodeHead_62)
        · refine sn_iconst hx hb d_In_decodeHead_45 (by decide) (fun z83 hz83 => ?_)
          refine lv_goto (tgt := 50) hx hb d_In_decodeHead_46 (by decide) ?_
          refine lv_istore_n (lv' := [(3, .int z83), (2, .int z70), (1, .int z20), (0, .ref (a 19))]) hx hb d_In_decodeHead_50 rfl hl (by decide) rfl (fun ls hl => ?_)
          refine lv_iload_n hx hb d_In_decodeHead_51 rfl (lv_at hl 1 rfl) ?_
          refine sn_bipush hx hb d_In_decodeHead_52 (by decide) (fun z84 hz84 => ?_)
          refine sn_ishlT hx hb d_In_decodeHead_54 (fun z85 hz85a hz85b => ?_)
          refine lv_iload_n hx hb d_In_decodeHead_55 rfl (lv_at hl 0 rfl) ?_
          refine sn_iconst hx hb d_In_decodeHead_56 (by decide) (fun z86 hz86 => ?_)
          refine sn_ishlT hx hb d_In_decodeHead_57 (fun z87 hz87a hz87b => ?_)
          refine sn_iorT hx hb d_In_decodeHead_58 (fun z88 hz88a hz88b => ?_)
          refine sn_bipush hx hb d_In_decodeHead_59 (by decide) (fun z89 hz89 => ?_)
          refine sn_iorT hx hb d_In_decodeHead_61 (fun z90 hz90a hz90b => ?_)
          have ho91 : okC he dp co z64.toInt z66.toInt wd tl lc fo sf lf nf := ⟨c21.1, c21.2.1, c21.2.2.1, ⟨by omega, by omega⟩, ⟨by omega, by omega⟩, c21.2.2.2.2.2.1, c21.2.2.2.2.2.2.1, c21.2.2.2.2.2.2.2.1, c21.2.2.2.2.2.2.2.2.1, by omega, c21.2.2.2.2.2.2.2.2.2.2.1, c21.2.2.2.2.2.2.2.2.2.2.2⟩
          subst hZ
          exact tz_ret (W.iret (v := z90) hx hb hr (fun t ht hW => ⟨⟨fun v9 hv9 => by cases hv9; exact (⟨z90, z64.toInt, z66.toInt, rfl, ho91, by omega, by omega, by rw [ht]; exact hI.1⟩), fun x9 hx9 => (by cases hx9)⟩, hI.2.F ht⟩) hI.2.2.2 d_In_decodeHead_62)
      · refine sn_iconst hx hb d_In_decodeHead_32 (by decide) (fun z92 hz92 => ?_)
        refine lv_goto (tgt := 37) hx hb d_In_decodeHead_33 (by decide) ?_
        refine lv_istore_n (lv' := [(2, .int z92), (1, .int z20), (0, .ref (a 19))]) hx hb d_In_decodeHead_37 rfl hl (by decide) rfl (fun ls hl => ?_)
        refine lv_iload_n hx hb d_In_decodeHead_38 rfl (lv_at hl 1 rfl) ?_
        refine sn_bipush hx hb d_In_decodeHead_39 (by decide) (fun z93 hz93 => ?_)
        refine sn_iandT hx hb d_In_decodeHead_41 (fun z94 hz94a hz94b => ?_)
        refine sn_if_eq (tgt := 49) hx hb d_In_decodeHead_42 (by decide) (fun b95 => ?_) (fun b95 => ?_)
        · refine sn_iconst hx hb d_In_decodeHead_49 (by decide) (fun z96 hz96 => ?_)
          refine lv_istore_n (lv' := [(3, .int z96), (2, .int z92), (1, .int z20), (0, .ref (a 19))]) hx hb d_In_decodeHead_50 rfl hl (by decide) rfl (fun ls hl => ?_)
          refine lv_iload_n hx hb d_In_decodeHead_51 rfl (lv_at hl 1 rfl) ?_
          refine sn_bipush hx hb d_In_decodeHead_52 (by decide) (fun z97 hz97 => ?_)
          refine sn_ishlT hx hb d_In_decodeHead_54 (fun z98 hz98a hz98b => ?_)
          refine lv_iload_n hx hb d_In_decodeHead_55 rfl (lv_at hl 0 rfl) ?_
          refine sn_iconst hx hb d_In_decodeHead_56 (by decide) (fun z99 hz99 => ?_)
          refine sn_ishlT hx hb d_In_decodeHead_57 (fun z100 hz100a hz100b => ?_)
          refine sn_iorT hx hb d_In_decodeHead_58 (fun z101 hz101a hz101b => ?_)
          refine sn_bipush hx hb d_In_decodeHead_59 (by decide) (fun z102 hz102 => ?_)
          refine sn_iorT hx hb d_In_decodeHead_61 (fun z103 hz103a hz103b => ?_)
          have ho104 : okC he dp co z64.toInt z66.toInt wd tl lc fo sf lf nf := ⟨c21.1, c21.2.1, c21.2.2.1, ⟨by omega, by omega⟩, ⟨by omega, by omega⟩, c21.2.2.2.2.2.1, c21.2.2.2.2.2.2.1, c21.2.2.2.2.2.2.2.1, c21.2.2.2.2.2.2.2.2.1, by omega, c21.2.2.2.2.2.2.2.2.2.2.1, c21.2.2.2.2.2.2.2.2.2.2.2⟩
          subst hZ
          exact tz_ret (W.iret (v := z103) hx hb hr (fun t ht hW => ⟨⟨fun v9 hv9 => by cases hv9; exact (⟨z103, z64.toInt, z66.toInt, rfl, ho104, by omega, by omega, by rw [ht]; exact hI.1⟩), fun x9 hx9 => (by cases hx9)⟩, hI.2.F ht⟩) hI.2.2.2 d_In_decodeHead_62)
        · refine sn_iconst hx hb d_In_decodeHead_45 (by decide) (fun z105 hz105 => ?_)
          refine lv_goto (tgt := 50) hx hb d_In_decodeHead_46 (by decide) ?_
          refine lv_istore_n (lv' := [(3, .int z105), (2, .int z92), (1, .int z20), (0, .ref (a 19))]) hx hb d_In_decodeHead_50 rfl hl (by decide) rfl (fun ls hl => ?_)
          refine lv_iload_n hx hb d_In_decodeHead_51 rfl (lv_at hl 1 rfl) ?_
          refine sn_bipush hx hb d_In_decodeHead_52 (by decide) (fun z106 hz106 => ?_)
          refine sn_ishlT hx hb d_In_decodeHead_54 (fun z107 hz107a hz107b => ?_)
          refine lv_iload_n hx hb d_In_decodeHead_55 rfl (lv_at hl 0 rfl) ?_
          refine sn_iconst hx hb d_In_decodeHead_56 (by decide) (fun z108 hz108 => ?_)
          refine sn_ishlT hx hb d_In_decodeHead_57 (fun z109 hz109a hz109b => ?_)
          refine sn_iorT hx hb d_In_decodeHead_58 (fun z110 hz110a hz110b => ?_)
          refine sn_bipush hx hb d_In_decodeHead_59 (by decide) (fun z111 hz111 => ?_)
          refine sn_iorT hx hb d_In_decodeHead_61 (fun z112 hz112a hz112b => ?_)
          have ho113 : okC he dp co z64.toInt z66.toInt wd tl lc fo sf lf nf := ⟨c21.1, c21.2.1, c21.2.2.1, ⟨by omega, by omega⟩, ⟨by omega, by omega⟩, c21.2.2.2.2.2.1, c21.2.2.2.2.2.2.1, c21.2.2.2.2.2.2.2.1, c21.2.2.2.2.2.2.2.2.1, by omega, c21.2.2.2.2.2.2.2.2.2.2.1, c21.2.2.2.2.2.2.2.2.2.2.2⟩
          subst hZ
          exact tz_ret (W.iret (v := z112) hx hb hr (fun t ht hW => ⟨⟨fun v9 hv9 => by cases hv9; exact (⟨z112, z64.toInt, z66.toInt, rfl, ho113, by omega, by omega, by rw [ht]; exact hI.1⟩), fun x9 hx9 => (by cases hx9)⟩, hI.2.F ht⟩) hI.2.2.2 d_In_decodeHead_62)
  · rcases hpost.2 _ rfl with ⟨hex, c114, hI1⟩
    have hI : sI (dC, dI) vcl cI cJ (gsC a he dp co li op wd tl lc fo sf lf nf) A s.heap H1 locs1 := ⟨by rw [← ht]; exact hI1, hS⟩
    refine tz_widen (k := 1) (n := 6) (Nat.le_of_ble_eq_true rfl) (Nat.le_of_ble_eq_true rfl) ?_
    subst hZ
    exact tz_leave (tx_noH B (hts _ mw_503) _) (fun t9 ht9 hW9 => ⟨⟨fun v9 hv9 => (by cases hv9), fun x9 hx9 => by cases hx9; exact (⟨li, op, ta_exm hex ht ht9 hWt hW9, c114, by rw [ht9]; exact hI.1⟩)⟩, hI.2.F ht9⟩) hI.2.2.2 hlocks
abbrev q_In_readNumber (dC : Nat → ClassId) (dI : Nat → Nat → Nat) (cI cJ : ClassId) (a : Nat → Nat) (he dp co li op wd tl lc fo : Int) (sf lf nf : Nat → Int32) (x1 : Int32) : Outcome → State → Prop := fun o t => (∀ v, o = .returned v → ((∃ (z : Int32) (he_ : Int), v = some (.int z) ∧ okC he_ dp co li op wd tl lc fo sf lf nf ∧ (0 ≤ z.toInt) ∧ (z.toInt ≤ 65535) ∧ sh_I (dC, dI) vcl cI cJ (gsC a he_ dp co li op wd tl lc fo sf lf nf) t.heap))) ∧ (∀ x, o = .threw x → ((ta_Ex "java/lang/IllegalArgumentException" x t ∧ okC he dp co li op wd tl lc fo sf lf nf ∧ sh_I (dC, dI) vcl cI cJ (gsC a he dp co li op wd tl lc fo sf lf nf) t.heap) ∨ (ta_Ex "java/lang/IllegalStateException" x t ∧ okC he dp co li op wd tl lc fo sf lf nf ∧ (2 ≤ x1.toInt) ∧ (x1.toInt ≤ 2) ∧ sh_I (dC, dI) vcl cI cJ (gsC a he dp co li op wd tl lc fo sf lf nf) t.heap)))
def rm_In_readNumber : Room := { frames := 10, cells := 1, slots := 6, locals := 193 }
set_option maxHeartbeats 4000000 in
set_option maxRecDepth 100000 in
theorem c_In_readNumber (l : Launch) (hfl : l.flags = pinnedFlags ++ [noTraceFlag]) (dC : Nat → ClassId) (dI : Nat → Nat → Nat) (cI cJ : ClassId) (a : Nat → Nat) (sz : Nat) (he dp co li op wd tl lc fo : Int) (sf lf nf : Nat → Int32) (x1 : Int32) (hok : okC he dp co li op wd tl lc fo sf lf nf) : tz_Met l ⟨"StoryMachine$Instruction", "readNumber", "(I)I"⟩ tw_tbl rm_In_readNumber (tzP (dC, dI) vcl cI cJ (gsC a he dp co li op wd tl lc fo sf lf nf) a (adC a) [.ref (a 19), .int x1] sz) (tq_Q (q_In_readNumber dC dI cI cJ a he dp co li op wd tl lc fo sf lf nf x1) (ga (adC a) sz)) 0 0 1 6 (ga (adC a) sz) := by
  refine tz_ofW (cc := prog_5_method_7_code) (maxL := 3) (ret := (some .int)) (by decide) (tx_isM mw_534) ?_
  intro p e s m args below meth c s₁ B hml hv
  obtain ⟨rfl, hsz, hI0, hK, hst0⟩ := hv
  have hx := B.exec
  have hb := B.bytes
  have hr := B.returns
  have hts := atoms_spec (ws := tw_tbl) B.pre
  have hown : s.vm.findClass "StoryMachine$Instruction" = some m.cls := findClass_of_methodNamed B.named
  have hlocks := B.notSynchronized
  subst hsz
  have hst := fun (H : Heap) (locs : List Loc) (hS : va_S (ga (adC a) s.heap.size) s.heap H locs) (U : State) (hU : U.heap = H) (hW : s.WarmedH U.vm) => zS_all adC_map hI0 hst0 hS hU hW
  have hAC : ∀ q ∈ adC a, ga (adC a) s.heap.size q := fun q h => Or.inl h
  have hA0 : ∀ q, s.heap.size ≤ q → ga (adC a) s.heap.size q := fun q h => Or.inr h
  have hI : sI (dC, dI) vcl cI cJ (gsC a he dp co li op wd tl lc fo sf lf nf) (ga (adC a) s.heap.size) s.heap s.heap [] := ⟨hI0, va_S.rf⟩
  clear hI0 hst0
  have hl := lv_entry ([.ref (a 19), .int x1]) (n := 3) (Nat.le_of_ble_eq_true rfl)
  rw [lg_entry_eq]
  generalize (lg_sl ([.ref (a 19), .int x1]) ++ List.replicate (3 - (lg_sl ([.ref (a 19), .int x1])).length) Slot.unset).toArray = ls at hl ⊢
  have hl : lv_has ls 3 [(0, .ref (a 19)), (1, .int x1)] := hl
  generalize hZ : tz_MQ below (tq_Q (q_In_readNumber dC dI cI cJ a he dp co li op wd tl lc fo sf lf nf x1) (ga (adC a) s.heap.size)) ([.ref (a 19), .int x1] : List Value).toArray s 0 0 1 6 (ga (adC a) s.heap.size) = Z
  obtain ⟨A, hAe⟩ : ∃ A, A = ga (adC a) s.heap.size := ⟨_, rfl⟩
  rw [← hAe] at hst hAC hA0 hI hZ
  refine sv_start hI (fun H locs hI => ?_)
  obtain ⟨⟨o1, o2⟩, ⟨o3, o4⟩, ⟨o5, o6⟩, ⟨o7, o8⟩, ⟨o9, o10⟩, ⟨o11, o12⟩, ⟨o13, o14⟩, ⟨o15, o16⟩, ⟨o17, o18⟩, o19, -, -⟩ := id hok
  have gx1 := sn_rng x1
  refine lv_iload_n hx hb d_In_readNumber_0 rfl (lv_at hl 1 rfl) ?_
  refine sn_iconst hx hb d_In_readNumber_1 (by decide) (fun z20 hz20 => ?_)
  refine sn_icmp_ne (tgt := 18) hx hb d_In_readNumber_2 (by decide) (fun b21 => ?_) (fun b21 => ?_)
  · refine lv_iload_n hx hb d_In_readNumber_18 rfl (lv_at hl 1 rfl) ?_
    refine sn_iconst hx hb d_In_readNumber_19 (by decide) (fun z22 hz22 => ?_)
    refine sn_icmp_ne (tgt := 28) hx hb d_In_readNumber_20 (by decide) (fun b23 => ?_) (fun b23 => ?_)
    · refine lv_aload_n hx hb d_In_readNumber_28 rfl (lv_at hl 0 rfl) ?_
      refine sv_getr (C := "StoryMachine$Instruction") (T := T_In) (N := 11) hx hb hts in_In hown hK hI 19 kC_19 rfl 0 (by decide) (hts _ mw_219) rfl d_In_readNumber_29 ?_
      refine lv_aload_n hx hb d_In_readNumber_32 rfl (lv_at hl 0 rfl) ?_
      refine sv_get (C := "StoryMachine$Instruction") (T := T_In) (N := 11) hx hb hts in_In hown hK hI 19 kC_19 rfl 6 (by decide) (hts _ mw_230) rfl d_In_readNumber_33 (fun z24 hz24a hz24b => ?_)
      refine tz_call (A1 := ga (adC a) H.size) (tz_runV (C := "StoryMachine$Memory") (As := [.int z24]) (rest := []) ⟨hx, hb, hml, hown, hts⟩ (c_Me_wordAt l hfl dC dI cI cJ a H.size he dp co li op wd tl lc fo sf lf nf z24 hok) (tx_cb (n := 1) hts rfl rfl ⟨Nat.le_of_ble_eq_true rfl, Nat.le_of_ble_eq_true rfl⟩ (tx_code.of (hts _ mw_440)) (hts _ mw_2) (by decide +kernel) (hts _ mw_563)) (hts _ mw_438) (hts _ mw_439) ⟨tz_blind, sv_recv (q0 := 1) hts in_Me hK hI kC_1 rfl, fun U hU hW => ⟨rfl, by rw [hU], by rw [hU]; exact hI.1, va_K.moved hW.alike hK, hst _ _ hI.2 U hU hW⟩⟩ rfl rfl hl.1 rfl (lv_room (Nat.le_of_ble_eq_true rfl)) d_In_readNumber_36 ⟨Nat.le_of_ble_eq_true rfl, Nat.le_of_ble_eq_true rfl⟩) hI.2 (fun q _ h => ga_sub hAC hA0 hI.2 q h) (ga_sub hAC hA0 hI.2) (fun v t H1 locs1 ht hWt hpost _ _ hS => ?_) (fun x t H1 locs1 ht hWt hpost _ _ hS => ?_)
      · rcases hpost.1 _ rfl with ⟨z25, hv, c26, c26_0, c26_1, c26_2, c26_3, hI1⟩
        cases hv
        have hI : sI (dC, dI) vcl cI cJ (gsC a he dp co li op wd tl lc fo sf lf nf) A s.heap H1 locs1 := ⟨by rw [← ht]; exact hI1, hS⟩
        clear hpost hI1 hS ht hWt
        revert hI; generalize H1 = H; generalize locs1 = locs; intro hI
        refine lv_istore_n (lv' := [(2, .int z25), (0, .ref (a 19)), (1, .int x1)]) hx hb d_In_readNumber_39 rfl hl (by decide) rfl (fun ls hl => ?_)
        refine lv_aload_n hx hb d_In_readNumber_40 rfl (lv_at hl 1 rfl) ?_
        refine lv_dup hx hb d_In_readNumber_41 rfl ?_
        refine sv_get (C := "StoryMachine$Instruction") (T := T_In) (N := 11) hx hb hts in_In hown hK hI 19 kC_19 rfl 6 (by decide) (hts _ mw_230) rfl d_In_readNumber_42 (fun z27 hz27a hz27b => ?_)
        refine sn_iconst hx hb d_In_readNumber_45 (by decide) (fun z28 hz28 => ?_)
        refine sn_iaddT hx hb d_In_readNumber_46 (fun z29 hz29a hz29b => ?_)
        refine sv_put (C := "StoryMachine$Instruction") (T := T_In) (N := 11) (ty := .int) hx hb hts in_In t_In tk_In nm_In hown hK (sh_in adC_map hAC) hI 19 kC_19 rfl 6 (by decide) (hts _ mw_230) rfl (by decide +kernel) rfl rfl (Nat.le_of_ble_eq_true rfl) (by omega) (by omega) pC_19_6 d_In_readNumber_47 (fun H locs hI => ?_)
        refine lv_iload_n hx hb d_In_readNumber_50 rfl (lv_at hl 0 rfl) ?_
        subst hZ
        exact tz_ret (W.iret (v := z25) hx hb hr (fun t ht hW => ⟨⟨fun v9 hv9 => by cases hv9; exact (⟨z25, he, rfl, c26, by omega, by omega, by rw [ht]; exact hI.1⟩), fun x9 hx9 => (by cases hx9)⟩, hI.2.F ht⟩) hI.2.2.2 d_In_readNumber_51)
      · rcases hpost.2 _ rfl with ⟨hex, c30, hI1⟩
        have hI : sI (dC, dI) vcl cI cJ (gsC a he dp co li op wd tl lc fo sf lf nf) A s.heap H1 locs1 := ⟨by rw [← ht]; exact hI1, hS⟩
        refine tz_widen (k := 1) (n := 6) (Nat.le_of_ble_eq_true rfl) (Nat.le_of_ble_eq_true rfl) ?_
        subst hZ
        exact tz_leave (tx_noH B (hts _ mw_534) _) (fun t9 ht9 hW9 => ⟨⟨fun v9 hv9 => (by cases hv9), fun x9 hx9 => by cases hx9; exact (Or.inl ⟨ta_exm hex ht ht9 hWt hW9, c30, by rw [ht9]; exact hI.1⟩)⟩, hI.2.F ht9⟩) hI.2.2.2 hlocks
    · refine lv_aload_n hx hb d_In_readNumber_23 rfl (lv_at hl 0 rfl) ?_
      refine tz_call (A1 := ga (adC a) H.size) (tz_runV (C := "StoryMachine$Instruction") (As := []) (rest := []) ⟨hx, hb, hml, hown, hts⟩ (c_In_nextByte l hfl dC dI cI cJ a H.size he dp co li op wd tl lc fo sf lf nf  hok) (tx_cb (n := 0) hts rfl rfl ⟨Nat.le_of_ble_eq_true rfl, Nat.le_of_ble_eq_true rfl⟩ (tx_code.of (hts _ mw_507)) (hts _ mw_11) (by decide +kernel) (hts _ mw_504)) (hts _ mw_506) (hts _ ms_In_nextByte) ⟨tz_blind, sv_recv (q0 := 19) hts in_In hK hI kC_19 rfl, fun U hU hW => ⟨rfl, by rw [hU], by rw [hU]; exact hI.1, va_K.moved hW.alike hK, hst _ _ hI.2 U hU hW⟩⟩ rfl rfl hl.1 rfl (lv_room (Nat.le_of_ble_eq_true rfl)) d_In_readNumber_24 ⟨Nat.le_of_ble_eq_true rfl, Nat.le_of_ble_eq_true rfl⟩) hI.2 (fun q _ h => ga_sub hAC hA0 hI.2 q h) (ga_sub hAC hA0 hI.2) (fun v t H1 locs1 ht hWt hpost _ _ hS => ?_) (fun x t H1 locs1 ht hWt hpost _ _ hS => ?_)
      · rcases hpost.1 _ rfl with ⟨z31, hv, c32, c32_0, c32_1, hI1⟩
        cases hv
        have hI : sI (dC, dI) vcl cI cJ (gsC a he dp co li op wd tl lc fo sf lf nf) A s.heap H1 locs1 := ⟨by rw [← ht]; exact hI1, hS⟩
        clear hpost hI1 hS ht hWt
        revert hI; generalize H1 = H; generalize locs1 = locs; intro hI
        subst hZ
        exact tz_ret (W.iret (v := z31) hx hb hr (fun t ht hW => ⟨⟨fun v9 hv9 => by cases hv9; exact (⟨z31, he, rfl, c32, by omega, by omega, by rw [ht]; exact hI.1⟩), fun x9 hx9 => (by cases hx9)⟩, hI.2.F ht⟩) hI.2.2.2 d_In_readNumber_27)
      · rcases hpost.2 _ rfl with ⟨hex, c33, hI1⟩
        have hI : sI (dC, dI) vcl cI cJ (gsC a he dp co li op wd tl lc fo sf lf nf) A s.heap H1 locs1 := ⟨by rw [← ht]; exact hI1, hS⟩
        refine tz_widen (k := 1) (n := 6) (Nat.le_of_ble_eq_true rfl) (Nat.le_of_ble_eq_true rfl) ?_
        subst hZ
        exact tz_leave (tx_noH B (hts _ mw_534) _) (fun t9 ht9 hW9 => ⟨⟨fun v9 hv9 => (by cases hv9), fun x9 hx9 => by cases hx9; exact (Or.inl ⟨ta_exm hex ht ht9 hWt hW9, c33, by rw [ht9]; exact hI.1⟩)⟩, hI.2.F ht9⟩) hI.2.2.2 hlocks
  · refine lv_aload_n hx hb d_In_readNumber_5 rfl (lv_at hl 0 rfl) ?_
    refine sv_getr (C := "StoryMachine$Instruction") (T := T_In) (N := 11) hx hb hts in_In hown hK hI 19 kC_19 rfl 1 (by decide) (hts _ mw_220) rfl d_In_readNumber_6 ?_
    refine lv_aload_n hx hb d_In_readNumber_9 rfl (lv_at hl 0 rfl) ?_
    refine tz_call (A1 := ga (adC a) H.size) (tz_runV (C := "StoryMachine$Instruction") (As := []) (rest := [.ref (a 16)]) ⟨hx, hb, hml, hown, hts⟩ (c_In_nextByte l hfl dC dI cI cJ a H.size he dp co li op wd tl lc fo sf lf nf  hok) (tx_cb (n := 0) hts rfl rfl ⟨Nat.le_of_ble_eq_true rfl, Nat.le_of_ble_eq_true rfl⟩ (tx_code.of (hts _ mw_507)) (hts _ mw_11) (by decide +kernel) (hts _ mw_504)) (hts _ mw_506) (hts _ ms_In_nextByte) ⟨tz_blind, sv_recv (q0 := 19) hts in_In hK hI kC_19 rfl, fun U hU hW => ⟨rfl, by rw [hU], by rw [hU]; exact hI.1, va_K.moved hW.alike hK, hst _ _ hI.2 U hU hW⟩⟩ rfl rfl hl.1 rfl (lv_room (Nat.le_of_ble_eq_true rfl)) d_In_readNumber_10 ⟨Nat.le_of_ble_eq_true rfl, Nat.le_of_ble_eq_true rfl⟩) hI.2 (fun q _ h => ga_sub hAC hA0 hI.2 q h) (ga_sub hAC hA0 hI.2) (fun v t H1 locs1 ht hWt hpost _ _ hS => ?_) (fun x t H1 locs1 ht hWt hpost _ _ hS => ?_)
    · rcases hpost.1 _ rfl with ⟨z34, hv, c35, c35_0, c35_1, hI1⟩
      cases hv
      have hI : sI (dC, dI) vcl cI cJ (gsC a he dp co li op wd tl lc fo sf lf nf) A s.heap H1 locs1 := ⟨by rw [← ht]; exact hI1, hS⟩
      clear hpost hI1 hS ht hWt
      revert hI; generalize H1 = H; generalize locs1 = locs; intro hI
      refine sn_iconst hx hb d_In_readNumber_13 (by decide) (fun z36 hz36 => ?_)
      refine tz_call (A1 := ga (adC a) H.size) (tz_runV (C := "StoryMachine$Variables") (As := [.int z34, .int z36]) (rest := []) ⟨hx, hb, hml, hown, hts⟩ (c_Va_read l hfl dC dI cI cJ a H.size he dp co li op wd tl lc fo sf lf nf z34 z36 c35) (tx_cb (n := 2) hts rfl rfl ⟨Nat.le_of_ble_eq_true rfl, Nat.le_of_ble_eq_true rfl⟩ (tx_code.of (hts _ mw_538)) (hts _ mw_8) (by decide +kernel) (hts _ mw_535)) (hts _ mw_536) (hts _ mw_537) ⟨tz_blind, sv_recv (q0 := 16) hts in_Va hK hI kC_16 rfl, fun U hU hW => ⟨rfl, by rw [hU], by rw [hU]; exact hI.1, va_K.moved hW.alike hK, hst _ _ hI.2 U hU hW⟩⟩ rfl rfl hl.1 rfl (lv_room (Nat.le_of_ble_eq_true rfl)) d_In_readNumber_14 ⟨Nat.le_of_ble_eq_true rfl, Nat.le_of_ble_eq_true rfl⟩) hI.2 (fun q _ h => ga_sub hAC hA0 hI.2 q h) (ga_sub hAC hA0 hI.2) (fun v t H1 locs1 ht hWt hpost _ _ hS => ?_) (fun x t H1 locs1 ht hWt hpost _ _ hS => ?_)
      · rcases hpost.1 _ rfl with ⟨z37, t_he38, hv, c39, c39_0, c39_1, c39_2, c39_3, hI1⟩
        cases hv
        have hI : sI (dC, dI) vcl cI cJ (gsC a t_he38 dp co li op wd tl lc fo sf lf nf) A s.heap H1 locs1 := ⟨by rw [← ht]; exact hI1, hS⟩
        obtain ⟨⟨o40, o41⟩, -, -, -, -, -, -, -, -, -, -, -⟩ := id c39
        clear hpost hI1 hS ht hWt
        revert hI; generalize H1 = H; generalize locs1 = locs; intro hI
        subst hZ
        exact tz_ret (W.iret (v := z37) hx hb hr (fun t ht hW => ⟨⟨fun v9 hv9 => by cases hv9; exact (⟨z37, t_he38, rfl, c39, by omega, by omega, by rw [ht]; exact hI.1⟩), fun x9 hx9 => (by cases hx9)⟩, hI.2.F ht⟩) hI.2.2.2 d_In_readNumber_17)
      · rcases hpost.2 _ rfl with ⟨hex, c42, hI1⟩ | ⟨hex, c43, c43_0, c43_1, hI1⟩
        · have hI : sI (dC, dI) vcl cI cJ (gsC a he dp co li op wd tl lc fo sf lf nf) A s.heap H1 locs1 := ⟨by rw [← ht]; exact hI1, hS⟩
          refine tz_widen (k := 1) (n := 6) (Nat.le_of_ble_eq_true rfl) (Nat.le_of_ble_eq_true rfl) ?_
          subst hZ
          exact tz_leave (tx_noH B (hts _ mw_534) _) (fun t9 ht9 hW9 => ⟨⟨fun v9 hv9 => (by cases hv9), fun x9 hx9 => by cases hx9; exact (Or.inl ⟨ta_exm hex ht ht9 hWt hW9, c42, by rw [ht9]; exact hI.1⟩)⟩, hI.2.F ht9⟩) hI.2.2.2 hlocks
        · have hI : sI (dC, dI) vcl cI cJ (gsC a he dp co li op wd tl lc fo sf lf nf) A s.heap H1 locs1 := ⟨by rw [← ht]; exact hI1, hS⟩
          refine tz_widen (k := 1) (n := 6) (Nat.le_of_ble_eq_true rfl) (Nat.le_of_ble_eq_true rfl) ?_
          subst hZ
          exact tz_leave (tx_noH B (hts _ mw_534) _) (fun t9 ht9 hW9 => ⟨⟨fun v9 hv9 => (by cases hv9), fun x9 hx9 => by cases hx9; exact (Or.inr (⟨ta_exm hex ht ht9 hWt hW9, c43, by omega, by omega, by rw [ht9]; exact hI.1⟩))⟩, hI.2.F ht9⟩) hI.2.2.2 hlocks
    · rcases hpost.2 _ rfl with ⟨hex, c44, hI1⟩
      have hI : sI (dC, dI) vcl cI cJ (gsC a he dp co li op wd tl lc fo sf lf nf) A s.heap H1 locs1 := ⟨by rw [← ht]; exact hI1, hS⟩
      refine tz_widen (k := 1) (n := 6) (Nat.le_of_ble_eq_true rfl) (Nat.le_of_ble_eq_true rfl) ?_
      subst hZ
      exact tz_leave (tx_noH B (hts _ mw_534) _) (fun t9 ht9 hW9 => ⟨⟨fun v9 hv9 => (by cases hv9), fun x9 hx9 => by cases hx9; exact (Or.inl ⟨ta_exm hex ht ht9 hWt hW9, c44, by rw [ht9]; exact hI.1⟩)⟩, hI.2.F ht9⟩) hI.2.2.2 hlocks
abbrev q_In_readNumbers (dC : Nat → ClassId) (dI : Nat → Nat → Nat) (cI cJ : ClassId) (a : Nat → Nat) (he dp co li op wd tl lc fo : Int) (sf lf nf : Nat → Int32) (x1 : Int32) : Outcome → State → Prop := fun o t => (∀ v, o = .returned v → ((∃ (he_ co_ : Int), v = none ∧ okC he_ dp co_ li op wd tl lc fo sf lf nf ∧ sh_I (dC, dI) vcl cI cJ (gsC a he_ dp co_ li op wd tl lc fo sf lf nf) t.heap))) ∧ (∀ x, o = .threw x → ((∃ (he_ co_ : Int), ta_Ex "java/lang/IllegalArgumentException" x t ∧ okC he_ dp co_ li op wd tl lc fo sf lf nf ∧ sh_I (dC, dI) vcl cI cJ (gsC a he_ dp co_ li op wd tl lc fo sf lf nf) t.heap) ∨ (∃ (he_ co_ : Int), ta_Ex "java/lang/IllegalStateException" x t ∧ okC he_ dp co_ li op wd tl lc fo sf lf nf ∧ sh_I (dC, dI) vcl cI cJ (gsC a he_ dp co_ li op wd tl lc fo sf lf nf) t.heap)))
def rm_In_readNumbers : Room := { frames := 11, cells := 1, slots := 6, locals := 215 }
set_option maxHeartbeats 4000000 in
set_option maxRecDepth 100000 in
theorem c_In_readNumbers (l : Launch) (hfl : l.flags = pinnedFlags ++ [noTraceFlag]) (dC : Nat → ClassId) (dI : Nat → Nat → Nat) (cI cJ : ClassId) (a : Nat → Nat) (sz : Nat) (he dp co li op wd tl lc fo : Int) (sf lf nf : Nat → Int32) (x1 : Int32) (hok : okC he dp co li op wd tl lc fo sf lf nf) : tz_Met l ⟨"StoryMachine$Instruction", "readNumbers", "(I)V"⟩ tw_tbl rm_In_readNumbers (tzP (dC, dI) vcl cI cJ (gsC a he dp co li op wd tl lc fo sf lf nf) a (adC a) [.ref (a 19), .int x1] sz) (tq_Q (q_In_readNumbers dC dI cI cJ a he dp co li op wd tl lc fo sf lf nf x1) (ga (adC a) sz)) 0 0 1 6 (ga (adC a) sz) := by
  refine tz_ofW (cc := prog_5_method_6_code) (maxL := 4) (ret := none) (by decide) (tx_isM mw_530) ?_
  intro p e s m args below meth c s₁ B hml hv
  obtain ⟨rfl, hsz, hI0, hK, hst0⟩ := hv
  have hx := B.exec
  have hb := B.bytes
  have hr := B.returns
  have hts := atoms_spec (ws := tw_tbl) B.pre
  have hown : s.vm.findClass "StoryMachine$Instruction" = some m.cls := findClass_of_methodNamed B.named
  have hlocks := B.notSynchronized
  subst hsz
  have hst := fun (H : Heap) (locs : List Loc) (hS : va_S (ga (adC a) s.heap.size) s.heap H locs) (U : State) (hU : U.heap = H) (hW : s.WarmedH U.vm) => zS_all adC_map hI0 hst0 hS hU hW
  have hAC : ∀ q ∈ adC a, ga (adC a) s.heap.size q := fun q h => Or.inl h
  have hA0 : ∀ q, s.heap.size ≤ q → ga (adC a) s.heap.size q := fun q h => Or.inr h
  have hI : sI (dC, dI) vcl cI cJ (gsC a he dp co li op wd tl lc fo sf lf nf) (ga (adC a) s.heap.size) s.heap s.heap [] := ⟨hI0, va_S.rf⟩
  clear hI0 hst0
  have hl := lv_entry ([.ref (a 19), .int x1]) (n := 4) (Nat.le_of_ble_eq_true rfl)
  rw [lg_entry_eq]
  generalize (lg_sl ([.ref (a 19), .int x1]) ++ List.replicate (4 - (lg_sl ([.ref (a 19), .int x1])).length) Slot.unset).toArray = ls at hl ⊢
  have hl : lv_has ls 4 [(0, .ref (a 19)), (1, .int x1)] := hl
  generalize hZ : tz_MQ below (tq_Q (q_In_readNumbers dC dI cI cJ a he dp co li op wd tl lc fo sf lf nf x1) (ga (adC a) s.heap.size)) ([.ref (a 19), .int x1] : List Value).toArray s 0 0 1 6 (ga (adC a) s.heap.size) = Z
  obtain ⟨A, hAe⟩ : ∃ A, A = ga (adC a) s.heap.size := ⟨_, rfl⟩
  rw [← hAe] at hst hAC hA0 hI hZ
  refine sv_start hI (fun H locs hI => ?_)
  obtain ⟨⟨o1, o2⟩, ⟨o3, o4⟩, ⟨o5, o6⟩, ⟨o7, o8⟩, ⟨o9, o10⟩, ⟨o11, o12⟩, ⟨o13, o14⟩, ⟨o15, o16⟩, ⟨o17, o18⟩, o19, -, -⟩ := id hok
  have gx1 := sn_rng x1
  have j7 : ∀ (n : Nat) (H : Heap) (locs : List Loc) (ls : Array Slot) (v7_2 : Int32) (t7_he t7_co : Int), sI (dC, dI) vcl cI cJ (gsC a t7_he dp t7_co li op wd tl lc fo sf lf nf) A s.heap H locs → okC t7_he dp t7_co li op wd tl lc fo sf lf nf → 0 ≤ v7_2.toInt → v7_2.toInt ≤ 4 → t7_co = v7_2.toInt → lv_has ls 4 [(0, .ref (a 19)), (1, .int x1), (2, .int v7_2)] → 4 - v7_2.toInt < (n : Int) → W p l e (headSpec tw_tbl rm_In_readNumbers).room s m ([.ref (a 19), .int x1] : List Value).toArray below meth c H locs 0 0 Z (F0 m 7 ls []) := by
    intro n
    induction n with
    | zero => intro H locs ls v7_2 t7_he t7_co hI hok g7_0 g7_1 g7_2 hl hme; exfalso; obtain ⟨⟨o20, o21⟩, ⟨o22, o23⟩, ⟨o24, o25⟩, ⟨o26, o27⟩, ⟨o28, o29⟩, ⟨o30, o31⟩, ⟨o32, o33⟩, ⟨o34, o35⟩, ⟨o36, o37⟩, o38, -, -⟩ := id hok; omega
    | succ n ih =>
      intro H locs ls v7_2 t7_he t7_co hI hok g7_0 g7_1 g7_2 hl hme
      obtain ⟨⟨o39, o40⟩, ⟨o41, o42⟩, ⟨o43, o44⟩, ⟨o45, o46⟩, ⟨o47, o48⟩, ⟨o49, o50⟩, ⟨o51, o52⟩, ⟨o53, o54⟩, ⟨o55, o56⟩, o57, -, -⟩ := id hok
      refine lv_iload_n hx hb d_In_readNumbers_7 rfl (lv_at hl 2 rfl) ?_
      refine lv_aload_n hx hb d_In_readNumbers_8 rfl (lv_at hl 0 rfl) ?_
      refine sv_getr (C := "StoryMachine$Instruction") (T := T_In) (N := 11) hx hb hts in_In hown hK hI 19 kC_19 rfl 2 (by decide) (hts _ mw_221) rfl d_In_readNumbers_9 ?_
      refine sv_alen hx hb hK hI 25 kC_25 (by decide) d_In_readNumbers_12 (fun z58 hz58 => ?_)
      refine sn_icmp_ge (tgt := 60) hx hb d_In_readNumbers_13 (by decide) (fun b59 => ?_) (fun b59 => ?_)
      · subst hZ
        exact tz_ret (W.vret hx hb hr (fun t ht hW => ⟨⟨fun v9 hv9 => by cases hv9; exact (⟨t7_he, t7_co, rfl, hok, by rw [ht]; exact hI.1⟩), fun x9 hx9 => (by cases hx9)⟩, hI.2.F ht⟩) hI.2.2.2 d_In_readNumbers_60)
      · refine lv_iload_n hx hb d_In_readNumbers_16 rfl (lv_at hl 1 rfl) ?_
        refine sn_bipush hx hb d_In_readNumbers_17 (by decide) (fun z60 hz60 => ?_)
        refine sn_iconst hx hb d_In_readNumbers_19 (by decide) (fun z61 hz61 => ?_)
        refine lv_iload_n hx hb d_In_readNumbers_20 rfl (lv_at hl 2 rfl) ?_
        refine sn_imulL (k := 2) hx hb d_In_readNumbers_21 (by omega) (by omega) (by omega) (fun z62 hz62 => ?_)
        refine sn_isub hx hb d_In_readNumbers_22 (by omega) (by omega) (fun z63 hz63 => ?_)
        refine sn_ishrT hx hb d_In_readNumbers_23 (fun z64 hz64a hz64b => ?_)
        refine sn_iconst hx hb d_In_readNumbers_24 (by decide) (fun z65 hz65 => ?_)
        refine sn_iand (k := 2) (M := 3) hx hb d_In_readNumbers_25 (by decide) (by decide) (by omega) (fun z66 hz66a hz66b hz66c => ?_)
        clear hz66c
        refine lv_istore_n (lv' := [(3, .int z66), (0, .ref (a 19)), (1, .int x1), (2, .int v7_2)]) hx hb d_In_readNumbers_26 rfl hl (by decide) rfl (fun ls hl => ?_)
        refine lv_iload_n hx hb d_In_readNumbers_27 rfl (lv_at hl 0 rfl) ?_
        refine sn_iconst hx hb d_In_readNumbers_28 (by decide) (fun z67 hz67 => ?_)
        refine sn_icmp_ne (tgt := 33) hx hb d_In_readNumbers_29 (by decide) (fun b68 => ?_) (fun b68 => ?_)
        · refine lv_aload_n hx hb d_In_readNumbers_33 rfl (lv_at hl 1 rfl) ?_
          refine sv_getr (C := "StoryMachine$Instruction") (T := T_In) (N := 11) hx hb hts in_In hown hK hI 19 kC_19 rfl 2 (by decide) (hts _ mw_221) rfl d_In_readNumbers_34 ?_
          refine lv_iload_n hx hb d_In_readNumbers_37 rfl (lv_at hl 3 rfl) ?_
          refine lv_aload_n hx hb d_In_readNumbers_38 rfl (lv_at hl 1 rfl) ?_
          refine lv_iload_n hx hb d_In_readNumbers_39 rfl (lv_at hl 0 rfl) ?_
          refine tz_call (A1 := ga (adC a) H.size) (tz_runV (C := "StoryMachine$Instruction") (As := [.int z66]) (rest := [.int v7_2, .ref (a 25)]) ⟨hx, hb, hml, hown, hts⟩ (c_In_readNumber l hfl dC dI cI cJ a H.size t7_he dp t7_co li op wd tl lc fo sf lf nf z66 hok) (tx_cb (n := 1) hts rfl rfl ⟨Nat.le_of_ble_eq_true rfl, Nat.le_of_ble_eq_true rfl⟩ (tx_code.of (hts _ mw_534)) (hts _ mw_11) (by decide +kernel) (hts _ mw_531)) (hts _ mw_533) (hts _ ms_In_readNumber) ⟨tz_blind, sv_recv (q0 := 19) hts in_In hK hI kC_19 rfl, fun U hU hW => ⟨rfl, by rw [hU], by rw [hU]; exact hI.1, va_K.moved hW.alike hK, hst _ _ hI.2 U hU hW⟩⟩ rfl rfl hl.1 rfl (lv_room (Nat.le_of_ble_eq_true rfl)) d_In_readNumbers_40 ⟨Nat.le_of_ble_eq_true rfl, Nat.le_of_ble_eq_true rfl⟩) hI.2 (fun q _ h => ga_sub hAC hA0 hI.2 q h) (ga_sub hAC hA0 hI.2) (fun v t H1 locs1 ht hWt hpost _ _ hS => ?_) (fun x t H1 locs1 ht hWt hpost _ _ hS => ?_)
          · rcases hpost.1 _ rfl with ⟨z69, t_he70, hv, c71, c71_0, c71_1, hI1⟩
            cases hv
            have hI : sI (dC, dI) vcl cI cJ (gsC a t_he70 dp t7_co li op wd tl lc fo sf lf nf) A s.heap H1 locs1 := ⟨by rw [← ht]; exact hI1, hS⟩
            obtain ⟨⟨o72, o73⟩, -, -, -, -, -, -, -, -, -, -, -⟩ := id c71
            clear hpost hI1 hS ht hWt
            revert hI; generalize H1 = H; generalize locs1 = locs; intro hI
            refine sv_iastr hx hb hK (sh_in adC_map hAC) hI 25 kC_25 (by omega) (by omega) (by omega) (by omega) pC_25 d_In_readNumbers_43 (fun H locs hI => ?_)
            refine lv_aload_n hx hb d_In_readNumbers_44 rfl (lv_at hl 1 rfl) ?_
            refine lv_dup hx hb d_In_readNumbers_45 rfl ?_
            refine sv_gete (C := "StoryMachine$Instruction") (T := T_In) (N := 11) hx hb hts in_In hown hK hI 19 kC_19 rfl 3 (by decide) (hts _ mw_223) rfl d_In_readNumbers_46 (fun z74 hz74 => ?_)
            refine sn_iconst hx hb d_In_readNumbers_49 (by decide) (fun z75 hz75 => ?_)
            refine sn_iadd hx hb d_In_readNumbers_50 (by omega) (by omega) (fun z76 hz76 => ?_)
            refine sv_put (C := "StoryMachine$Instruction") (T := T_In) (N := 11) (ty := .int) hx hb hts in_In t_In tk_In nm_In hown hK (sh_in adC_map hAC) hI 19 kC_19 rfl 3 (by decide) (hts _ mw_223) rfl (by decide +kernel) rfl rfl (Nat.le_of_ble_eq_true rfl) (Int.le_refl _) (Int.le_refl _) pC_19_3 d_In_readNumbers_51 (fun H locs hI => ?_)
            refine sn_iinc (k := 3) hx hb d_In_readNumbers_54 hl rfl (by decide) (by decide) (by omega) (by omega) (fun ls z77 hz77 hl => ?_)
            have hl : lv_has ls 4 [(2, .int z77), (3, .int z66), (0, .ref (a 19)), (1, .int x1)] := hl
            refine lv_goto (tgt := 7) hx hb d_In_readNumbers_57 (by decide) ?_
            have ho78 : okC t_he70 dp z76.toInt li op wd tl lc fo sf lf nf := ⟨c71.1, c71.2.1, ⟨by omega, by omega⟩, c71.2.2.2.1, c71.2.2.2.2.1, c71.2.2.2.2.2.1, c71.2.2.2.2.2.2.1, c71.2.2.2.2.2.2.2.1, c71.2.2.2.2.2.2.2.2.1, c71.2.2.2.2.2.2.2.2.2.1, c71.2.2.2.2.2.2.2.2.2.2.1, c71.2.2.2.2.2.2.2.2.2.2.2⟩
            exact ih _ _ _ z77 t_he70 z76.toInt hI ho78 (by omega) (by omega) (by omega) (lv_sub hl [2, 3, 0] rfl) (by omega)
          · rcases hpost.2 _ rfl with ⟨hex, c79, hI1⟩ | ⟨hex, c80, c80_0, c80_1, hI1⟩
            · have hI : sI (dC, dI) vcl cI cJ (gsC a t7_he dp t7_co li op wd tl lc fo sf lf nf) A s.heap H1 locs1 := ⟨by rw [← ht]; exact hI1, hS⟩
              refine tz_widen (k := 1) (n := 6) (Nat.le_of_ble_eq_true rfl) (Nat.le_of_ble_eq_true rfl) ?_
              subst hZ
              exact tz_leave (tx_noH B (hts _ mw_530) _) (fun t9 ht9 hW9 => ⟨⟨fun v9 hv9 => (by cases hv9), fun x9 hx9 => by cases hx9; exact (Or.inl ⟨t7_he, t7_co, ta_exm hex ht ht9 hWt hW9, c79, by rw [ht9]; exact hI.1⟩)⟩, hI.2.F ht9⟩) hI.2.2.2 hlocks
            · have hI : sI (dC, dI) vcl cI cJ (gsC a t7_he dp t7_co li op wd tl lc fo sf lf nf) A s.heap H1 locs1 := ⟨by rw [← ht]; exact hI1, hS⟩
              refine tz_widen (k := 1) (n := 6) (Nat.le_of_ble_eq_true rfl) (Nat.le_of_ble_eq_true rfl) ?_
              subst hZ
              exact tz_leave (tx_noH B (hts _ mw_530) _) (fun t9 ht9 hW9 => ⟨⟨fun v9 hv9 => (by cases hv9), fun x9 hx9 => by cases hx9; exact (Or.inr (⟨t7_he, t7_co, ta_exm hex ht ht9 hWt hW9, c80, by rw [ht9]; exact hI.1⟩))⟩, hI.2.F ht9⟩) hI.2.2.2 hlocks
        · subst hZ
          exact tz_ret (W.vret hx hb hr (fun t ht hW => ⟨⟨fun v9 hv9 => by cases hv9; exact (⟨t7_he, t7_co, rfl, hok, by rw [ht]; exact hI.1⟩), fun x9 hx9 => (by cases hx9)⟩, hI.2.F ht⟩) hI.2.2.2 d_In_readNumbers_32)
  refine lv_aload_n hx hb d_In_readNumbers_0 rfl (lv_at hl 0 rfl) ?_
  refine sn_iconst hx hb d_In_readNumbers_1 (by decide) (fun z81 hz81 => ?_)
  refine sv_put (C := "StoryMachine$Instruction") (T := T_In) (N := 11) (ty := .int) hx hb hts in_In t_In tk_In nm_In hown hK (sh_in adC_map hAC) hI 19 kC_19 rfl 3 (by decide) (hts _ mw_223) rfl (by decide +kernel) rfl rfl (Nat.le_of_ble_eq_true rfl) (Int.le_refl _) (Int.le_refl _) pC_19_3 d_In_readNumbers_2 (fun H locs hI => ?_)
  refine sn_iconst hx hb d_In_readNumbers_5 (by decide) (fun z82 hz82 => ?_)
  refine lv_istore_n (lv' := [(2, .int z82), (0, .ref (a 19)), (1, .int x1)]) hx hb d_In_readNumbers_6 rfl hl (by decide) rfl (fun ls hl => ?_)
  have ho83 : okC he dp z81.toInt li op wd tl lc fo sf lf nf := ⟨hok.1, hok.2.1, ⟨by omega, by omega⟩, hok.2.2.2.1, hok.2.2.2.2.1, hok.2.2.2.2.2.1, hok.2.2.2.2.2.2.1, hok.2.2.2.2.2.2.2.1, hok.2.2.2.2.2.2.2.2.1, hok.2.2.2.2.2.2.2.2.2.1, hok.2.2.2.2.2.2.2.2.2.2.1, hok.2.2.2.2.2.2.2.2.2.2.2⟩
  exact j7 5 _ _ _ z82 he z81.toInt hI ho83 (by omega) (by omega) (by omega) (lv_sub hl [1, 2, 0] rfl) (by omega)
