abbrev q_Va_read (dC : Nat → ClassId) (dI : Nat → Nat → Nat) (cI cJ : ClassId) (a : Nat → Nat) (he dp co li op wd tl lc fo : Int) (sf lf nf : Nat → Int32) (x1 : Int32) (x2 : Int32) : Outcome → State → Prop := fun o t => (∀ v, o = .returned v → ((∃ (z : Int32) (he_ : Int), v = some (.int z) ∧ okC he_ dp co li op wd tl lc fo sf lf nf ∧ (0 ≤ z.toInt) ∧ (z.toInt ≤ 65535) ∧ (0 ≤ x1.toInt) ∧ (x1.toInt ≤ 47) ∧ sh_I (dC, dI) vcl cI cJ (gsC a he_ dp co li op wd tl lc fo sf lf nf) t.heap))) ∧ (∀ x, o = .threw x → ((ta_Ex "java/lang/IllegalArgumentException" x t ∧ okC he dp co li op wd tl lc fo sf lf nf ∧ sh_I (dC, dI) vcl cI cJ (gsC a he dp co li op wd tl lc fo sf lf nf) t.heap) ∨ (ta_Ex "java/lang/IllegalStateException" x t ∧ okC he dp co li op wd tl lc fo sf lf nf ∧ (0 ≤ x1.toInt) ∧ (x1.toInt ≤ 0) ∧ sh_I (dC, dI) vcl cI cJ (gsC a he dp co li op wd tl lc fo sf lf nf) t.heap)))
def rm_Va_read : Room := { frames := 9, cells := 1, slots := 6, locals := 171 }
set_option maxHeartbeats 4000000 in
set_option maxRecDepth 100000 in
theorem c_Va_read (l : Launch) (hfl : l.flags = pinnedFlags ++ [noTraceFlag]) (dC : Nat → ClassId) (dI : Nat → Nat → Nat) (cI cJ : ClassId) (a : Nat → Nat) (sz : Nat) (he dp co li op wd tl lc fo : Int) (sf lf nf : Nat → Int32) (x1 : Int32) (x2 : Int32) (hok : okC he dp co li op wd tl lc fo sf lf nf) : tz_Met l ⟨"StoryMachine$Variables", "read", "(IZ)I"⟩ tw_tbl rm_Va_read (tzP (dC, dI) vcl cI cJ (gsC a he dp co li op wd tl lc fo sf lf nf) a (adC a) [.ref (a 16), .int x1, .int x2] sz) (tq_Q (q_Va_read dC dI cI cJ a he dp co li op wd tl lc fo sf lf nf x1 x2) (ga (adC a) sz)) 0 0 1 6 (ga (adC a) sz) := by
  refine tz_ofW (cc := prog_11_method_2_code) (maxL := 3) (ret := (some .int)) (by decide) (tx_isM mw_538) ?_
  intro p e s m args below meth c s₁ B hml hv
  obtain ⟨rfl, hsz, hI0, hK, hst0⟩ := hv
  have hx := B.exec
  have hb := B.bytes
  have hr := B.returns
  have hts := atoms_spec (ws := tw_tbl) B.pre
  have hown : s.vm.findClass "StoryMachine$Variables" = some m.cls := findClass_of_methodNamed B.named
  have hlocks := B.notSynchronized
  subst hsz
  have hst := fun (H : Heap) (locs : List Loc) (hS : va_S (ga (adC a) s.heap.size) s.heap H locs) (U : State) (hU : U.heap = H) (hW : s.WarmedH U.vm) => zS_all adC_map hI0 hst0 hS hU hW
  have hAC : ∀ q ∈ adC a, ga (adC a) s.heap.size q := fun q h => Or.inl h
  have hA0 : ∀ q, s.heap.size ≤ q → ga (adC a) s.heap.size q := fun q h => Or.inr h
  have hI : sI (dC, dI) vcl cI cJ (gsC a he dp co li op wd tl lc fo sf lf nf) (ga (adC a) s.heap.size) s.heap s.heap [] := ⟨hI0, va_S.rf⟩
  clear hI0 hst0
  have hl := lv_entry ([.ref (a 16), .int x1, .int x2]) (n := 3) (Nat.le_of_ble_eq_true rfl)
  rw [lg_entry_eq]
  generalize (lg_sl ([.ref (a 16), .int x1, .int x2]) ++ List.replicate (3 - (lg_sl ([.ref (a 16), .int x1, .int x2])).length) Slot.unset).toArray = ls at hl ⊢
  have hl : lv_has ls 3 [(0, .ref (a 16)), (1, .int x1), (2, .int x2)] := hl
  generalize hZ : tz_MQ below (tq_Q (q_Va_read dC dI cI cJ a he dp co li op wd tl lc fo sf lf nf x1 x2) (ga (adC a) s.heap.size)) ([.ref (a 16), .int x1, .int x2] : List Value).toArray s 0 0 1 6 (ga (adC a) s.heap.size) = Z
  obtain ⟨A, hAe⟩ : ∃ A, A = ga (adC a) s.heap.size := ⟨_, rfl⟩
  rw [← hAe] at hst hAC hA0 hI hZ
  refine sv_start hI (fun H locs hI => ?_)
  obtain ⟨⟨o1, o2⟩, ⟨o3, o4⟩, ⟨o5, o6⟩, ⟨o7, o8⟩, ⟨o9, o10⟩, ⟨o11, o12⟩, ⟨o13, o14⟩, ⟨o15, o16⟩, ⟨o17, o18⟩, o19, -, -⟩ := id hok
  have gx1 := sn_rng x1
  have gx2 := sn_rng x2
  refine lv_iload_n hx hb d_Va_read_0 rfl (lv_at hl 1 rfl) ?_
  refine sn_if_ne (tgt := 26) hx hb d_Va_read_1 (by decide) (fun b20 => ?_) (fun b20 => ?_)
  · refine lv_iload_n hx hb d_Va_read_26 rfl (lv_at hl 1 rfl) ?_
    refine sn_bipush hx hb d_Va_read_27 (by decide) (fun z21 hz21 => ?_)
    refine sn_icmp_ge (tgt := 41) hx hb d_Va_read_29 (by decide) (fun b22 => ?_) (fun b22 => ?_)
    · refine lv_aload_n hx hb d_Va_read_41 rfl (lv_at hl 0 rfl) ?_
      refine sv_getr (C := "StoryMachine$Variables") (T := T_Va) (N := 2) hx hb hts in_Va hown hK hI 16 kC_16 rfl 0 (by decide) (hts _ mw_168) rfl d_Va_read_42 ?_
      refine lv_aload_n hx hb d_Va_read_45 rfl (lv_at hl 0 rfl) ?_
      refine lv_iload_n hx hb d_Va_read_46 rfl (lv_at hl 1 rfl) ?_
      refine tz_call (A1 := ga (adC a) H.size) (tz_runV (C := "StoryMachine$Variables") (As := [.int x1]) (rest := [.ref (a 1)]) ⟨hx, hb, hml, hown, hts⟩ (c_Va_globalPlace l hfl dC dI cI cJ a H.size he dp co li op wd tl lc fo sf lf nf x1 hok) (tx_cb (n := 1) hts rfl rfl ⟨Nat.le_of_ble_eq_true rfl, Nat.le_of_ble_eq_true rfl⟩ (tx_code.of (hts _ mw_559)) (hts _ mw_8) (by decide +kernel) (hts _ mw_556)) (hts _ mw_558) (hts _ ms_Va_globalPlace) ⟨tz_blind, sv_recv (q0 := 16) hts in_Va hK hI kC_16 rfl, fun U hU hW => ⟨rfl, by rw [hU], by rw [hU]; exact hI.1, va_K.moved hW.alike hK, hst _ _ hI.2 U hU hW⟩⟩ rfl rfl hl.1 rfl (lv_room (Nat.le_of_ble_eq_true rfl)) d_Va_read_47 ⟨Nat.le_of_ble_eq_true rfl, Nat.le_of_ble_eq_true rfl⟩) hI.2 (fun q _ h => ga_sub hAC hA0 hI.2 q h) (ga_sub hAC hA0 hI.2) (fun v t H1 locs1 ht hWt hpost _ _ hS => ?_) (fun x t H1 locs1 ht hWt hpost _ _ hS => ?_)
      · rcases hpost.1 _ rfl with ⟨z23, hv, c24, c24_0, c24_1, c24_2, hI1⟩
        cases hv
        have hI : sI (dC, dI) vcl cI cJ (gsC a he dp co li op wd tl lc fo sf lf nf) A s.heap H1 locs1 := ⟨by rw [← ht]; exact hI1, hS⟩
        clear hpost hI1 hS ht hWt
        revert hI; generalize H1 = H; generalize locs1 = locs; intro hI
        refine tz_call (A1 := ga (adC a) H.size) (tz_runV (C := "StoryMachine$Memory") (As := [.int z23]) (rest := []) ⟨hx, hb, hml, hown, hts⟩ (c_Me_wordAt l hfl dC dI cI cJ a H.size he dp co li op wd tl lc fo sf lf nf z23 c24) (tx_cb (n := 1) hts rfl rfl ⟨Nat.le_of_ble_eq_true rfl, Nat.le_of_ble_eq_true rfl⟩ (tx_code.of (hts _ mw_440)) (hts _ mw_2) (by decide +kernel) (hts _ mw_562)) (hts _ mw_438) (hts _ mw_439) ⟨tz_blind, sv_recv (q0 := 1) hts in_Me hK hI kC_1 rfl, fun U hU hW => ⟨rfl, by rw [hU], by rw [hU]; exact hI.1, va_K.moved hW.alike hK, hst _ _ hI.2 U hU hW⟩⟩ rfl rfl hl.1 rfl (lv_room (Nat.le_of_ble_eq_true rfl)) d_Va_read_50 ⟨Nat.le_of_ble_eq_true rfl, Nat.le_of_ble_eq_true rfl⟩) hI.2 (fun q _ h => ga_sub hAC hA0 hI.2 q h) (ga_sub hAC hA0 hI.2) (fun v t H1 locs1 ht hWt hpost _ _ hS => ?_) (fun x t H1 locs1 ht hWt hpost _ _ hS => ?_)
        · rcases hpost.1 _ rfl with ⟨z25, hv, c26, c26_0, c26_1, c26_2, c26_3, hI1⟩
          cases hv
          have hI : sI (dC, dI) vcl cI cJ (gsC a he dp co li op wd tl lc fo sf lf nf) A s.heap H1 locs1 := ⟨by rw [← ht]; exact hI1, hS⟩
          clear hpost hI1 hS ht hWt
          revert hI; generalize H1 = H; generalize locs1 = locs; intro hI
          subst hZ
          exact tz_ret (W.iret (v := z25) hx hb hr (fun t ht hW => ⟨⟨fun v9 hv9 => by cases hv9; exact (⟨z25, he, rfl, c26, by omega, by omega, by omega, by omega, by rw [ht]; exact hI.1⟩), fun x9 hx9 => (by cases hx9)⟩, hI.2.F ht⟩) hI.2.2.2 d_Va_read_53)
        · rcases hpost.2 _ rfl with ⟨hex, c27, hI1⟩
          have hI : sI (dC, dI) vcl cI cJ (gsC a he dp co li op wd tl lc fo sf lf nf) A s.heap H1 locs1 := ⟨by rw [← ht]; exact hI1, hS⟩
          refine tz_widen (k := 1) (n := 6) (Nat.le_of_ble_eq_true rfl) (Nat.le_of_ble_eq_true rfl) ?_
          subst hZ
          exact tz_leave (tx_noH B (hts _ mw_538) _) (fun t9 ht9 hW9 => ⟨⟨fun v9 hv9 => (by cases hv9), fun x9 hx9 => by cases hx9; exact (Or.inl ⟨ta_exm hex ht ht9 hWt hW9, c27, by rw [ht9]; exact hI.1⟩)⟩, hI.2.F ht9⟩) hI.2.2.2 hlocks
      · rcases hpost.2 _ rfl with ⟨hex, c28, c28_0, hI1⟩
        have hI : sI (dC, dI) vcl cI cJ (gsC a he dp co li op wd tl lc fo sf lf nf) A s.heap H1 locs1 := ⟨by rw [← ht]; exact hI1, hS⟩
        refine tz_widen (k := 1) (n := 6) (Nat.le_of_ble_eq_true rfl) (Nat.le_of_ble_eq_true rfl) ?_
        subst hZ
        exact tz_leave (tx_noH B (hts _ mw_538) _) (fun t9 ht9 hW9 => ⟨⟨fun v9 hv9 => (by cases hv9), fun x9 hx9 => by cases hx9; exact (Or.inl ⟨ta_exm hex ht ht9 hWt hW9, c28, by rw [ht9]; exact hI.1⟩)⟩, hI.2.F ht9⟩) hI.2.2.2 hlocks
    · refine lv_aload_n hx hb d_Va_read_32 rfl (lv_at hl 0 rfl) ?_
      refine sv_getr (C := "StoryMachine$Variables") (T := T_Va) (N := 2) hx hb hts in_Va hown hK hI 16 kC_16 rfl 1 (by decide) (hts _ mw_169) rfl d_Va_read_33 ?_
      refine lv_iload_n hx hb d_Va_read_36 rfl (lv_at hl 1 rfl) ?_
      refine tz_call (A1 := ga (adC a) H.size) (tz_runV (C := "StoryMachine$Routines") (As := [.int x1]) (rest := []) ⟨hx, hb, hml, hown, hts⟩ (c_Ro_localValue l hfl dC dI cI cJ a H.size he dp co li op wd tl lc fo sf lf nf x1 hok) (tx_cb (n := 1) hts rfl rfl ⟨Nat.le_of_ble_eq_true rfl, Nat.le_of_ble_eq_true rfl⟩ (tx_code.of (hts _ mw_553)) (hts _ mw_4) (by decide +kernel) (hts _ mw_550)) (hts _ mw_551) (hts _ mw_552) ⟨tz_blind, sv_recv (q0 := 3) hts in_Ro hK hI kC_3 rfl, fun U hU hW => ⟨rfl, by rw [hU], by rw [hU]; exact hI.1, va_K.moved hW.alike hK, hst _ _ hI.2 U hU hW⟩⟩ rfl rfl hl.1 rfl (lv_room (Nat.le_of_ble_eq_true rfl)) d_Va_read_37 ⟨Nat.le_of_ble_eq_true rfl, Nat.le_of_ble_eq_true rfl⟩) hI.2 (fun q _ h => ga_sub hAC hA0 hI.2 q h) (ga_sub hAC hA0 hI.2) (fun v t H1 locs1 ht hWt hpost _ _ hS => ?_) (fun x t H1 locs1 ht hWt hpost _ _ hS => ?_)
      · rcases hpost.1 _ rfl with ⟨z29, hv, c30, c30_0, c30_1, c30_2, c30_3, hI1⟩
        cases hv
        have hI : sI (dC, dI) vcl cI cJ (gsC a he dp co li op wd tl lc fo sf lf nf) A s.heap H1 locs1 := ⟨by rw [← ht]; exact hI1, hS⟩
        clear hpost hI1 hS ht hWt
        revert hI; generalize H1 = H; generalize locs1 = locs; intro hI
        subst hZ
        exact tz_ret (W.iret (v := z29) hx hb hr (fun t ht hW => ⟨⟨fun v9 hv9 => by cases hv9; exact (⟨z29, he, rfl, c30, by omega, by omega, by omega, by omega, by rw [ht]; exact hI.1⟩), fun x9 hx9 => (by cases hx9)⟩, hI.2.F ht⟩) hI.2.2.2 d_Va_read_40)
      · rcases hpost.2 _ rfl with ⟨hex, c31, hI1⟩
        have hI : sI (dC, dI) vcl cI cJ (gsC a he dp co li op wd tl lc fo sf lf nf) A s.heap H1 locs1 := ⟨by rw [← ht]; exact hI1, hS⟩
        refine tz_widen (k := 1) (n := 6) (Nat.le_of_ble_eq_true rfl) (Nat.le_of_ble_eq_true rfl) ?_
        subst hZ
        exact tz_leave (tx_noH B (hts _ mw_538) _) (fun t9 ht9 hW9 => ⟨⟨fun v9 hv9 => (by cases hv9), fun x9 hx9 => by cases hx9; exact (Or.inl ⟨ta_exm hex ht ht9 hWt hW9, c31, by rw [ht9]; exact hI.1⟩)⟩, hI.2.F ht9⟩) hI.2.2.2 hlocks
  · refine lv_iload_n hx hb d_Va_read_4 rfl (lv_at hl 2 rfl) ?_
    refine sn_if_eq (tgt := 18) hx hb d_Va_read_5 (by decide) (fun b32 => ?_) (fun b32 => ?_)
    · refine lv_aload_n hx hb d_Va_read_18 rfl (lv_at hl 0 rfl) ?_
      refine sv_getr (C := "StoryMachine$Variables") (T := T_Va) (N := 2) hx hb hts in_Va hown hK hI 16 kC_16 rfl 1 (by decide) (hts _ mw_169) rfl d_Va_read_19 ?_
      refine tz_call (A1 := ga (adC a) H.size) (tz_runV (C := "StoryMachine$Routines") (As := []) (rest := []) ⟨hx, hb, hml, hown, hts⟩ (c_Ro_pop l hfl dC dI cI cJ a H.size he dp co li op wd tl lc fo sf lf nf  hok) (tx_cb (n := 0) hts rfl rfl ⟨Nat.le_of_ble_eq_true rfl, Nat.le_of_ble_eq_true rfl⟩ (tx_code.of (hts _ mw_548)) (hts _ mw_4) (by decide +kernel) (hts _ mw_545)) (hts _ mw_546) (hts _ mw_547) ⟨tz_blind, sv_recv (q0 := 3) hts in_Ro hK hI kC_3 rfl, fun U hU hW => ⟨rfl, by rw [hU], by rw [hU]; exact hI.1, va_K.moved hW.alike hK, hst _ _ hI.2 U hU hW⟩⟩ rfl rfl hl.1 rfl (lv_room (Nat.le_of_ble_eq_true rfl)) d_Va_read_22 ⟨Nat.le_of_ble_eq_true rfl, Nat.le_of_ble_eq_true rfl⟩) hI.2 (fun q _ h => ga_sub hAC hA0 hI.2 q h) (ga_sub hAC hA0 hI.2) (fun v t H1 locs1 ht hWt hpost _ _ hS => ?_) (fun x t H1 locs1 ht hWt hpost _ _ hS => ?_)
      · rcases hpost.1 _ rfl with ⟨z33, t_he34, hv, c35, c35_0, c35_1, c35_2, c35_3, hI1⟩
        cases hv
        have hI : sI (dC, dI) vcl cI cJ (gsC a t_he34 dp co li op wd tl lc fo sf lf nf) A s.heap H1 locs1 := ⟨by rw [← ht]; exact hI1, hS⟩
        obtain ⟨⟨o36, o37⟩, -, -, -, -, -, -, -, -, -, -, -⟩ := id c35
        clear hpost hI1 hS ht hWt
        revert hI; generalize H1 = H; generalize locs1 = locs; intro hI
        subst hZ
        exact tz_ret (W.iret (v := z33) hx hb hr (fun t ht hW => ⟨⟨fun v9 hv9 => by cases hv9; exact (⟨z33, t_he34, rfl, c35, by omega, by omega, by omega, by omega, by rw [ht]; exact hI.1⟩), fun x9 hx9 => (by cases hx9)⟩, hI.2.F ht⟩) hI.2.2.2 d_Va_read_25)
      · rcases hpost.2 _ rfl with ⟨hex, c38, hI1⟩
        have hI : sI (dC, dI) vcl cI cJ (gsC a he dp co li op wd tl lc fo sf lf nf) A s.heap H1 locs1 := ⟨by rw [← ht]; exact hI1, hS⟩
        refine tz_widen (k := 1) (n := 6) (Nat.le_of_ble_eq_true rfl) (Nat.le_of_ble_eq_true rfl) ?_
        subst hZ
        exact tz_leave (tx_noH B (hts _ mw_538) _) (fun t9 ht9 hW9 => ⟨⟨fun v9 hv9 => (by cases hv9), fun x9 hx9 => by cases hx9; exact (Or.inr (⟨ta_exm hex ht ht9 hWt hW9, c38, by omega, by omega, by rw [ht9]; exact hI.1⟩))⟩, hI.2.F ht9⟩) hI.2.2.2 hlocks
    · refine lv_aload_n hx hb d_Va_read_8 rfl (lv_at hl 0 rfl) ?_
      refine sv_getr (C := "StoryMachine$Variables") (T := T_Va) (N := 2) hx hb hts in_Va hown hK hI 16 kC_16 rfl 1 (by decide) (hts _ mw_169) rfl d_Va_read_9 ?_
      refine tz_call (A1 := ga (adC a) H.size) (tz_runV (C := "StoryMachine$Routines") (As := []) (rest := []) ⟨hx, hb, hml, hown, hts⟩ (c_Ro_top l hfl dC dI cI cJ a H.size he dp co li op wd tl lc fo sf lf nf  hok) (tx_cb (n := 0) hts rfl rfl ⟨Nat.le_of_ble_eq_true rfl, Nat.le_of_ble_eq_true rfl⟩ (tx_code.of (hts _ mw_542)) (hts _ mw_4) (by decide +kernel) (hts _ mw_539)) (hts _ mw_540) (hts _ mw_541) ⟨tz_blind, sv_recv (q0 := 3) hts in_Ro hK hI kC_3 rfl, fun U hU hW => ⟨rfl, by rw [hU], by rw [hU]; exact hI.1, va_K.moved hW.alike hK, hst _ _ hI.2 U hU hW⟩⟩ rfl rfl hl.1 rfl (lv_room (Nat.le_of_ble_eq_true rfl)) d_Va_read_12 ⟨Nat.le_of_ble_eq_true rfl, Nat.le_of_ble_eq_true rfl⟩) hI.2 (fun q _ h => ga_sub hAC hA0 hI.2 q h) (ga_sub hAC hA0 hI.2) (fun v t H1 locs1 ht hWt hpost _ _ hS => ?_) (fun x t H1 locs1 ht hWt hpost _ _ hS => ?_)
      · rcases hpost.1 _ rfl with ⟨z39, hv, c40, c40_0, c40_1, c40_2, hI1⟩
        cases hv
        have hI : sI (dC, dI) vcl cI cJ (gsC a he dp co li op wd tl lc fo sf lf nf) A s.heap H1 locs1 := ⟨by rw [← ht]; exact hI1, hS⟩
        clear hpost hI1 hS ht hWt
        revert hI; generalize H1 = H; generalize locs1 = locs; intro hI
        refine lv_goto (tgt := 25) hx hb d_Va_read_15 (by decide) ?_
        subst hZ
        exact tz_ret (W.iret (v := z39) hx hb hr (fun t ht hW => ⟨⟨fun v9 hv9 => by cases hv9; exact (⟨z39, he, rfl, c40, by omega, by omega, by omega, by omega, by rw [ht]; exact hI.1⟩), fun x9 hx9 => (by cases hx9)⟩, hI.2.F ht⟩) hI.2.2.2 d_Va_read_25)
      · rcases hpost.2 _ rfl with ⟨hex, c41, hI1⟩
        have hI : sI (dC, dI) vcl cI cJ (gsC a he dp co li op wd tl lc fo sf lf nf) A s.heap H1 locs1 := ⟨by rw [← ht]; exact hI1, hS⟩
        refine tz_widen (k := 1) (n := 6) (Nat.le_of_ble_eq_true rfl) (Nat.le_of_ble_eq_true rfl) ?_
        subst hZ
        exact tz_leave (tx_noH B (hts _ mw_538) _) (fun t9 ht9 hW9 => ⟨⟨fun v9 hv9 => (by cases hv9), fun x9 hx9 => by cases hx9; exact (Or.inr (⟨ta_exm hex ht ht9 hWt hW9, c41, by omega, by omega, by rw [ht9]; exact hI.1⟩))⟩, hI.2.F ht9⟩) hI.2.2.2 hlocks
abbrev q_Va_write (dC : Nat → ClassId) (dI : Nat → Nat → Nat) (cI cJ : ClassId) (a : Nat → Nat) (he dp co li op wd tl lc fo : Int) (sf lf nf : Nat → Int32) (x1 : Int32) (x2 : Int32) (x3 : Int32) : Outcome → State → Prop := fun o t => (∀ v, o = .returned v → ((∃ (he_ : Int), v = none ∧ okC he_ dp co li op wd tl lc fo sf lf nf ∧ (0 ≤ x1.toInt) ∧ (x1.toInt ≤ 47) ∧ sh_I (dC, dI) vcl cI cJ (gsC a he_ dp co li op wd tl lc fo sf lf nf) t.heap))) ∧ (∀ x, o = .threw x → ((ta_Ex "java/lang/IllegalArgumentException" x t ∧ okC he dp co li op wd tl lc fo sf lf nf ∧ sh_I (dC, dI) vcl cI cJ (gsC a he dp co li op wd tl lc fo sf lf nf) t.heap) ∨ (ta_Ex "java/lang/IllegalStateException" x t ∧ okC he dp co li op wd tl lc fo sf lf nf ∧ (0 ≤ x1.toInt) ∧ (x1.toInt ≤ 0) ∧ sh_I (dC, dI) vcl cI cJ (gsC a he dp co li op wd tl lc fo sf lf nf) t.heap)))
def rm_Va_write : Room := { frames := 8, cells := 1, slots := 6, locals := 152 }
set_option maxHeartbeats 4000000 in
set_option maxRecDepth 100000 in
theorem c_Va_write (l : Launch) (hfl : l.flags = pinnedFlags ++ [noTraceFlag]) (dC : Nat → ClassId) (dI : Nat → Nat → Nat) (cI cJ : ClassId) (a : Nat → Nat) (sz : Nat) (he dp co li op wd tl lc fo : Int) (sf lf nf : Nat → Int32) (x1 : Int32) (x2 : Int32) (x3 : Int32) (hok : okC he dp co li op wd tl lc fo sf lf nf) : tz_Met l ⟨"StoryMachine$Variables", "write", "(IIZ)V"⟩ tw_tbl rm_Va_write (tzP (dC, dI) vcl cI cJ (gsC a he dp co li op wd tl lc fo sf lf nf) a (adC a) [.ref (a 16), .int x1, .int x2, .int x3] sz) (tq_Q (q_Va_write dC dI cI cJ a he dp co li op wd tl lc fo sf lf nf x1 x2 x3) (ga (adC a) sz)) 0 0 1 6 (ga (adC a) sz) := by
  refine tz_ofW (cc := prog_11_method_3_code) (maxL := 4) (ret := none) (by decide) (tx_isM mw_619) ?_
  intro p e s m args below meth c s₁ B hml hv
  obtain ⟨rfl, hsz, hI0, hK, hst0⟩ := hv
  have hx := B.exec
  have hb := B.bytes
  have hr := B.returns
  have hts := atoms_spec (ws := tw_tbl) B.pre
  have hown : s.vm.findClass "StoryMachine$Variables" = some m.cls := findClass_of_methodNamed B.named
  have hlocks := B.notSynchronized
  subst hsz
  have hst := fun (H : Heap) (locs : List Loc) (hS : va_S (ga (adC a) s.heap.size) s.heap H locs) (U : State) (hU : U.heap = H) (hW : s.WarmedH U.vm) => zS_all adC_map hI0 hst0 hS hU hW
  have hAC : ∀ q ∈ adC a, ga (adC a) s.heap.size q := fun q h => Or.inl h
  have hA0 : ∀ q, s.heap.size ≤ q → ga (adC a) s.heap.size q := fun q h => Or.inr h
  have hI : sI (dC, dI) vcl cI cJ (gsC a he dp co li op wd tl lc fo sf lf nf) (ga (adC a) s.heap.size) s.heap s.heap [] := ⟨hI0, va_S.rf⟩
  clear hI0 hst0
  have hl := lv_entry ([.ref (a 16), .int x1, .int x2, .int x3]) (n := 4) (Nat.le_of_ble_eq_true rfl)
  rw [lg_entry_eq]
  generalize (lg_sl ([.ref (a 16), .int x1, .int x2, .int x3]) ++ List.replicate (4 - (lg_sl ([.ref (a 16), .int x1, .int x2, .int x3])).length) Slot.unset).toArray = ls at hl ⊢
  have hl : lv_has ls 4 [(0, .ref (a 16)), (1, .int x1), (2, .int x2), (3, .int x3)] := hl
  generalize hZ : tz_MQ below (tq_Q (q_Va_write dC dI cI cJ a he dp co li op wd tl lc fo sf lf nf x1 x2 x3) (ga (adC a) s.heap.size)) ([.ref (a 16), .int x1, .int x2, .int x3] : List Value).toArray s 0 0 1 6 (ga (adC a) s.heap.size) = Z
  obtain ⟨A, hAe⟩ : ∃ A, A = ga (adC a) s.heap.size := ⟨_, rfl⟩
  rw [← hAe] at hst hAC hA0 hI hZ
  refine sv_start hI (fun H locs hI => ?_)
  obtain ⟨⟨o1, o2⟩, ⟨o3, o4⟩, ⟨o5, o6⟩, ⟨o7, o8⟩, ⟨o9, o10⟩, ⟨o11, o12⟩, ⟨o13, o14⟩, ⟨o15, o16⟩, ⟨o17, o18⟩, o19, -, -⟩ := id hok
  have gx1 := sn_rng x1
  have gx2 := sn_rng x2
  have gx3 := sn_rng x3
  have j19 : ∀ (H : Heap) (locs : List Loc) (ls : Array Slot), sI (dC, dI) vcl cI cJ (gsC a he dp co li op wd tl lc fo sf lf nf) A s.heap H locs → okC he dp co li op wd tl lc fo sf lf nf → lv_has ls 4 [(0, .ref (a 16)), (1, .int x1), (2, .int x2), (3, .int x3)] → W p l e (headSpec tw_tbl rm_Va_write).room s m ([.ref (a 16), .int x1, .int x2, .int x3] : List Value).toArray below meth c H locs 0 0 Z (F0 m 19 ls []) := by
    intro H locs ls hI hok hl
    obtain ⟨⟨o20, o21⟩, ⟨o22, o23⟩, ⟨o24, o25⟩, ⟨o26, o27⟩, ⟨o28, o29⟩, ⟨o30, o31⟩, ⟨o32, o33⟩, ⟨o34, o35⟩, ⟨o36, o37⟩, o38, -, -⟩ := id hok
    refine lv_iload_n hx hb d_Va_write_19 rfl (lv_at hl 1 rfl) ?_
    refine sn_if_ne (tgt := 34) hx hb d_Va_write_20 (by decide) (fun b39 => ?_) (fun b39 => ?_)
    · refine lv_iload_n hx hb d_Va_write_34 rfl (lv_at hl 1 rfl) ?_
      refine sn_bipush hx hb d_Va_write_35 (by decide) (fun z40 hz40 => ?_)
      refine sn_icmp_ge (tgt := 52) hx hb d_Va_write_37 (by decide) (fun b41 => ?_) (fun b41 => ?_)
      · refine lv_aload_n hx hb d_Va_write_52 rfl (lv_at hl 0 rfl) ?_
        refine sv_getr (C := "StoryMachine$Variables") (T := T_Va) (N := 2) hx hb hts in_Va hown hK hI 16 kC_16 rfl 0 (by decide) (hts _ mw_168) rfl d_Va_write_53 ?_
        refine lv_aload_n hx hb d_Va_write_56 rfl (lv_at hl 0 rfl) ?_
        refine lv_iload_n hx hb d_Va_write_57 rfl (lv_at hl 1 rfl) ?_
        refine tz_call (A1 := ga (adC a) H.size) (tz_runV (C := "StoryMachine$Variables") (As := [.int x1]) (rest := [.ref (a 1)]) ⟨hx, hb, hml, hown, hts⟩ (c_Va_globalPlace l hfl dC dI cI cJ a H.size he dp co li op wd tl lc fo sf lf nf x1 hok) (tx_cb (n := 1) hts rfl rfl ⟨Nat.le_of_ble_eq_true rfl, Nat.le_of_ble_eq_true rfl⟩ (tx_code.of (hts _ mw_559)) (hts _ mw_8) (by decide +kernel) (hts _ mw_556)) (hts _ mw_558) (hts _ ms_Va_globalPlace) ⟨tz_blind, sv_recv (q0 := 16) hts in_Va hK hI kC_16 rfl, fun U hU hW => ⟨rfl, by rw [hU], by rw [hU]; exact hI.1, va_K.moved hW.alike hK, hst _ _ hI.2 U hU hW⟩⟩ rfl rfl hl.1 rfl (lv_room (Nat.le_of_ble_eq_true rfl)) d_Va_write_58 ⟨Nat.le_of_ble_eq_true rfl, Nat.le_of_ble_eq_true rfl⟩) hI.2 (fun q _ h => ga_sub hAC hA0 hI.2 q h) (ga_sub hAC hA0 hI.2) (fun v t H1 locs1 ht hWt hpost _ _ hS => ?_) (fun x t H1 locs1 ht hWt hpost _ _ hS => ?_)
        · rcases hpost.1 _ rfl with ⟨z42, hv, c43, c43_0, c43_1, c43_2, hI1⟩
          cases hv
          have hI : sI (dC, dI) vcl cI cJ (gsC a he dp co li op wd tl lc fo sf lf nf) A s.heap H1 locs1 := ⟨by rw [← ht]; exact hI1, hS⟩
          clear hpost hI1 hS ht hWt
          revert hI; generalize H1 = H; generalize locs1 = locs; intro hI
          refine lv_iload_n hx hb d_Va_write_61 rfl (lv_at hl 2 rfl) ?_
          refine tz_call (A1 := ga (adC a) H.size) (tz_runV (C := "StoryMachine$Memory") (As := [.int z42, .int x2]) (rest := []) ⟨hx, hb, hml, hown, hts⟩ (c_Me_writeWord l hfl dC dI cI cJ a H.size he dp co li op wd tl lc fo sf lf nf z42 x2 c43) (tx_cb (n := 2) hts rfl rfl ⟨Nat.le_of_ble_eq_true rfl, Nat.le_of_ble_eq_true rfl⟩ (tx_code.of (hts _ mw_636)) (hts _ mw_2) (by decide +kernel) (hts _ mw_633)) (hts _ mw_634) (hts _ mw_635) ⟨tz_blind, sv_recv (q0 := 1) hts in_Me hK hI kC_1 rfl, fun U hU hW => ⟨rfl, by rw [hU], by rw [hU]; exact hI.1, va_K.moved hW.alike hK, hst _ _ hI.2 U hU hW⟩⟩ rfl rfl hl.1 rfl (lv_room (Nat.le_of_ble_eq_true rfl)) d_Va_write_62 ⟨Nat.le_of_ble_eq_true rfl, Nat.le_of_ble_eq_true rfl⟩) hI.2 (fun q _ h => ga_sub hAC hA0 hI.2 q h) (ga_sub hAC hA0 hI.2) (fun v t H1 locs1 ht hWt hpost _ _ hS => ?_) (fun x t H1 locs1 ht hWt hpost _ _ hS => ?_)
          · rcases hpost.1 _ rfl with ⟨hv, c44, c44_0, c44_1, hI1⟩
            cases hv
            have hI : sI (dC, dI) vcl cI cJ (gsC a he dp co li op wd tl lc fo sf lf nf) A s.heap H1 locs1 := ⟨by rw [← ht]; exact hI1, hS⟩
            clear hpost hI1 hS ht hWt
            revert hI; generalize H1 = H; generalize locs1 = locs; intro hI
            subst hZ
            exact tz_ret (W.vret hx hb hr (fun t ht hW => ⟨⟨fun v9 hv9 => by cases hv9; exact (⟨he, rfl, c44, by omega, by omega, by rw [ht]; exact hI.1⟩), fun x9 hx9 => (by cases hx9)⟩, hI.2.F ht⟩) hI.2.2.2 d_Va_write_65)
          · rcases hpost.2 _ rfl with ⟨hex, c45, hI1⟩
            have hI : sI (dC, dI) vcl cI cJ (gsC a he dp co li op wd tl lc fo sf lf nf) A s.heap H1 locs1 := ⟨by rw [← ht]; exact hI1, hS⟩
            refine tz_widen (k := 1) (n := 6) (Nat.le_of_ble_eq_true rfl) (Nat.le_of_ble_eq_true rfl) ?_
            subst hZ
            exact tz_leave (tx_noH B (hts _ mw_619) _) (fun t9 ht9 hW9 => ⟨⟨fun v9 hv9 => (by cases hv9), fun x9 hx9 => by cases hx9; exact (Or.inl ⟨ta_exm hex ht ht9 hWt hW9, c45, by rw [ht9]; exact hI.1⟩)⟩, hI.2.F ht9⟩) hI.2.2.2 hlocks
        · rcases hpost.2 _ rfl with ⟨hex, c46, c46_0, hI1⟩
          have hI : sI (dC, dI) vcl cI cJ (gsC a he dp co li op wd tl lc fo sf lf nf) A s.heap H1 locs1 := ⟨by rw [← ht]; exact hI1, hS⟩
          refine tz_widen (k := 1) (n := 6) (Nat.le_of_ble_eq_true rfl) (Nat.le_of_ble_eq_true rfl) ?_
          subst hZ
          exact tz_leave (tx_noH B (hts _ mw_619) _) (fun t9 ht9 hW9 => ⟨⟨fun v9 hv9 => (by cases hv9), fun x9 hx9 => by cases hx9; exact (Or.inl ⟨ta_exm hex ht ht9 hWt hW9, c46, by rw [ht9]; exact hI.1⟩)⟩, hI.2.F ht9⟩) hI.2.2.2 hlocks
      · refine lv_aload_n hx hb d_Va_write_40 rfl (lv_at hl 0 rfl) ?_
        refine sv_getr (C := "StoryMachine$Variables") (T := T_Va) (N := 2) hx hb hts in_Va hown hK hI 16 kC_16 rfl 1 (by decide) (hts _ mw_169) rfl d_Va_write_41 ?_
        refine lv_iload_n hx hb d_Va_write_44 rfl (lv_at hl 1 rfl) ?_
        refine lv_iload_n hx hb d_Va_write_45 rfl (lv_at hl 2 rfl) ?_
        refine tz_call (A1 := ga (adC a) H.size) (tz_runV (C := "StoryMachine$Routines") (As := [.int x1, .int x2]) (rest := []) ⟨hx, hb, hml, hown, hts⟩ (c_Ro_setLocal l hfl dC dI cI cJ a H.size he dp co li op wd tl lc fo sf lf nf x1 x2 hok) (tx_cb (n := 2) hts rfl rfl ⟨Nat.le_of_ble_eq_true rfl, Nat.le_of_ble_eq_true rfl⟩ (tx_code.of (hts _ mw_632)) (hts _ mw_4) (by decide +kernel) (hts _ mw_629)) (hts _ mw_630) (hts _ mw_631) ⟨tz_blind, sv_recv (q0 := 3) hts in_Ro hK hI kC_3 rfl, fun U hU hW => ⟨rfl, by rw [hU], by rw [hU]; exact hI.1, va_K.moved hW.alike hK, hst _ _ hI.2 U hU hW⟩⟩ rfl rfl hl.1 rfl (lv_room (Nat.le_of_ble_eq_true rfl)) d_Va_write_46 ⟨Nat.le_of_ble_eq_true rfl, Nat.le_of_ble_eq_true rfl⟩) hI.2 (fun q _ h => ga_sub hAC hA0 hI.2 q h) (ga_sub hAC hA0 hI.2) (fun v t H1 locs1 ht hWt hpost _ _ hS => ?_) (fun x t H1 locs1 ht hWt hpost _ _ hS => ?_)
        · rcases hpost.1 _ rfl with ⟨hv, c47, c47_0, c47_1, hI1⟩
          cases hv
          have hI : sI (dC, dI) vcl cI cJ (gsC a he dp co li op wd tl lc fo sf lf nf) A s.heap H1 locs1 := ⟨by rw [← ht]; exact hI1, hS⟩
          clear hpost hI1 hS ht hWt
          revert hI; generalize H1 = H; generalize locs1 = locs; intro hI
          refine lv_goto (tgt := 65) hx hb d_Va_write_49 (by decide) ?_
          subst hZ
          exact tz_ret (W.vret hx hb hr (fun t ht hW => ⟨⟨fun v9 hv9 => by cases hv9; exact (⟨he, rfl, c47, by omega, by omega, by rw [ht]; exact hI.1⟩), fun x9 hx9 => (by cases hx9)⟩, hI.2.F ht⟩) hI.2.2.2 d_Va_write_65)
        · rcases hpost.2 _ rfl with ⟨hex, c48, hI1⟩
          have hI : sI (dC, dI) vcl cI cJ (gsC a he dp co li op wd tl lc fo sf lf nf) A s.heap H1 locs1 := ⟨by rw [← ht]; exact hI1, hS⟩
          refine tz_widen (k := 1) (n := 6) (Nat.le_of_ble_eq_true rfl) (Nat.le_of_ble_eq_true rfl) ?_
          subst hZ
          exact tz_leave (tx_noH B (hts _ mw_619) _) (fun t9 ht9 hW9 => ⟨⟨fun v9 hv9 => (by cases hv9), fun x9 hx9 => by cases hx9; exact (Or.inl ⟨ta_exm hex ht ht9 hWt hW9, c48, by rw [ht9]; exact hI.1⟩)⟩, hI.2.F ht9⟩) hI.2.2.2 hlocks
    · refine lv_aload_n hx hb d_Va_write_23 rfl (lv_at hl 0 rfl) ?_
      refine sv_getr (C := "StoryMachine$Variables") (T := T_Va) (N := 2) hx hb hts in_Va hown hK hI 16 kC_16 rfl 1 (by decide) (hts _ mw_169) rfl d_Va_write_24 ?_
      refine lv_iload_n hx hb d_Va_write_27 rfl (lv_at hl 2 rfl) ?_
      refine tz_call (A1 := ga (adC a) H.size) (tz_runV (C := "StoryMachine$Routines") (As := [.int x2]) (rest := []) ⟨hx, hb, hml, hown, hts⟩ (c_Ro_push l hfl dC dI cI cJ a H.size he dp co li op wd tl lc fo sf lf nf x2 hok) (tx_cb (n := 1) hts rfl rfl ⟨Nat.le_of_ble_eq_true rfl, Nat.le_of_ble_eq_true rfl⟩ (tx_code.of (hts _ mw_628)) (hts _ mw_4) (by decide +kernel) (hts _ mw_625)) (hts _ mw_626) (hts _ mw_627) ⟨tz_blind, sv_recv (q0 := 3) hts in_Ro hK hI kC_3 rfl, fun U hU hW => ⟨rfl, by rw [hU], by rw [hU]; exact hI.1, va_K.moved hW.alike hK, hst _ _ hI.2 U hU hW⟩⟩ rfl rfl hl.1 rfl (lv_room (Nat.le_of_ble_eq_true rfl)) d_Va_write_28 ⟨Nat.le_of_ble_eq_true rfl, Nat.le_of_ble_eq_true rfl⟩) hI.2 (fun q _ h => ga_sub hAC hA0 hI.2 q h) (ga_sub hAC hA0 hI.2) (fun v t H1 locs1 ht hWt hpost _ _ hS => ?_) (fun x t H1 locs1 ht hWt hpost _ _ hS => ?_)
      · rcases hpost.1 _ rfl with ⟨t_he49, hv, c50, c50_0, c50_1, hI1⟩
        cases hv
        have hI : sI (dC, dI) vcl cI cJ (gsC a t_he49 dp co li op wd tl lc fo sf lf nf) A s.heap H1 locs1 := ⟨by rw [← ht]; exact hI1, hS⟩
        obtain ⟨⟨o51, o52⟩, -, -, -, -, -, -, -, -, -, -, -⟩ := id c50
        clear hpost hI1 hS ht hWt
        revert hI; generalize H1 = H; generalize locs1 = locs; intro hI
        refine lv_goto (tgt := 65) hx hb d_Va_write_31 (by decide) ?_
        subst hZ
        exact tz_ret (W.vret hx hb hr (fun t ht hW => ⟨⟨fun v9 hv9 => by cases hv9; exact (⟨t_he49, rfl, c50, by omega, by omega, by rw [ht]; exact hI.1⟩), fun x9 hx9 => (by cases hx9)⟩, hI.2.F ht⟩) hI.2.2.2 d_Va_write_65)
      · rcases hpost.2 _ rfl with ⟨hex, c53, c53_0, hI1⟩
        have hI : sI (dC, dI) vcl cI cJ (gsC a he dp co li op wd tl lc fo sf lf nf) A s.heap H1 locs1 := ⟨by rw [← ht]; exact hI1, hS⟩
        refine tz_widen (k := 1) (n := 6) (Nat.le_of_ble_eq_true rfl) (Nat.le_of_ble_eq_true rfl) ?_
        subst hZ
        exact tz_leave (tx_noH B (hts _ mw_619) _) (fun t9 ht9 hW9 => ⟨⟨fun v9 hv9 => (by cases hv9), fun x9 hx9 => by cases hx9; exact (Or.inr (⟨ta_exm hex ht ht9 hWt hW9, c53, by omega, by omega, by rw [ht9]; exact hI.1⟩))⟩, hI.2.F ht9⟩) hI.2.2.2 hlocks
  refine lv_iload_n hx hb d_Va_write_0 rfl (lv_at hl 1 rfl) ?_
  refine sn_if_ne (tgt := 19) hx hb d_Va_write_1 (by decide) (fun b54 => ?_) (fun b54 => ?_)
  · exact j19 _ _ _  hI hok (lv_sub hl [0, 1, 2, 3] rfl)
  · refine lv_iload_n hx hb d_Va_write_4 rfl (lv_at hl 3 rfl) ?_
    refine sn_if_eq (tgt := 19) hx hb d_Va_write_5 (by decide) (fun b55 => ?_) (fun b55 => ?_)
    · exact j19 _ _ _  hI hok (lv_sub hl [0, 1, 2, 3] rfl)
    · refine lv_aload_n hx hb d_Va_write_8 rfl (lv_at hl 0 rfl) ?_
      refine sv_getr (C := "StoryMachine$Variables") (T := T_Va) (N := 2) hx hb hts in_Va hown hK hI 16 kC_16 rfl 1 (by decide) (hts _ mw_169) rfl d_Va_write_9 ?_
      refine lv_iload_n hx hb d_Va_write_12 rfl (lv_at hl 2 rfl) ?_
      refine tz_call (A1 := ga (adC a) H.size) (tz_runV (C := "StoryMachine$Routines") (As := [.int x2]) (rest := []) ⟨hx, hb, hml, hown, hts⟩ (c_Ro_replaceTop l hfl dC dI cI cJ a H.size he dp co li op wd tl lc fo sf lf nf x2 hok) (tx_cb (n := 1) hts rfl rfl ⟨Nat.le_of_ble_eq_true rfl, Nat.le_of_ble_eq_true rfl⟩ (tx_code.of (hts _ mw_623)) (hts _ mw_4) (by decide +kernel) (hts _ mw_620)) (hts _ mw_621) (hts _ mw_622) ⟨tz_blind, sv_recv (q0 := 3) hts in_Ro hK hI kC_3 rfl, fun U hU hW => ⟨rfl, by rw [hU], by rw [hU]; exact hI.1, va_K.moved hW.alike hK, hst _ _ hI.2 U hU hW⟩⟩ rfl rfl hl.1 rfl (lv_room (Nat.le_of_ble_eq_true rfl)) d_Va_write_13 ⟨Nat.le_of_ble_eq_true rfl, Nat.le_of_ble_eq_true rfl⟩) hI.2 (fun q _ h => ga_sub hAC hA0 hI.2 q h) (ga_sub hAC hA0 hI.2) (fun v t H1 locs1 ht hWt hpost _ _ hS => ?_) (fun x t H1 locs1 ht hWt hpost _ _ hS => ?_)
      · rcases hpost.1 _ rfl with ⟨hv, c56, c56_0, hI1⟩
        cases hv
        have hI : sI (dC, dI) vcl cI cJ (gsC a he dp co li op wd tl lc fo sf lf nf) A s.heap H1 locs1 := ⟨by rw [← ht]; exact hI1, hS⟩
        clear hpost hI1 hS ht hWt
        revert hI; generalize H1 = H; generalize locs1 = locs; intro hI
        refine lv_goto (tgt := 65) hx hb d_Va_write_16 (by decide) ?_
        subst hZ
        exact tz_ret (W.vret hx hb hr (fun t ht hW => ⟨⟨fun v9 hv9 => by cases hv9; exact (⟨he, rfl, c56, by omega, by omega, by rw [ht]; exact hI.1⟩), fun x9 hx9 => (by cases hx9)⟩, hI.2.F ht⟩) hI.2.2.2 d_Va_write_65)
      · rcases hpost.2 _ rfl with ⟨hex, c57, hI1⟩
        have hI : sI (dC, dI) vcl cI cJ (gsC a he dp co li op wd tl lc fo sf lf nf) A s.heap H1 locs1 := ⟨by rw [← ht]; exact hI1, hS⟩
        refine tz_widen (k := 1) (n := 6) (Nat.le_of_ble_eq_true rfl) (Nat.le_of_ble_eq_true rfl) ?_
        subst hZ
        exact tz_leave (tx_noH B (hts _ mw_619) _) (fun t9 ht9 hW9 => ⟨⟨fun v9 hv9 => (by cases hv9), fun x9 hx9 => by cases hx9; exact (Or.inr (⟨ta_exm hex ht ht9 hWt hW9, c57, by omega, by omega, by rw [ht9]; exact hI.1⟩))⟩, hI.2.F ht9⟩) hI.2.2.2 hlocks
abbrev q_Li_clear (dC : Nat → ClassId) (dI : Nat → Nat → Nat) (cI cJ : ClassId) (a : Nat → Nat) (he dp co li op wd tl lc fo : Int) (sf lf nf : Nat → Int32) : Outcome → State → Prop := fun o t => (∀ v, o = .returned v → ((∃ (tl_ : Int), v = none ∧ okC he dp co li op wd tl_ lc fo sf lf nf ∧ (tl_ ≤ 0) ∧ sh_I (dC, dI) vcl cI cJ (gsC a he dp co li op wd tl_ lc fo sf lf nf) t.heap))) ∧ (∀ x, o = .threw x → (False))
def rm_Li_clear : Room := { frames := 0, cells := 0, slots := 0, locals := 0 }
set_option maxHeartbeats 4000000 in
set_option maxRecDepth 100000 in
theorem c_Li_clear (l : Launch) (hfl : l.flags = pinnedFlags ++ [noTraceFlag]) (dC : Nat → ClassId) (dI : Nat → Nat → Nat) (cI cJ : ClassId) (a : Nat → Nat) (sz : Nat) (he dp co li op wd tl lc fo : Int) (sf lf nf : Nat → Int32) (hok : okC he dp co li op wd tl lc fo sf lf nf) : tz_Met l ⟨"StoryMachine$Line", "clear", "()V"⟩ tw_tbl rm_Li_clear (tzP (dC, dI) vcl cI cJ (gsC a he dp co li op wd tl lc fo sf lf nf) a (adC a) [.ref (a 2)] sz) (tq_Q (q_Li_clear dC dI cI cJ a he dp co li op wd tl lc fo sf lf nf) (ga (adC a) sz)) 0 0 0 0 (ga (adC a) sz) := by
  refine tz_ofW (cc := prog_6_method_2_code) (maxL := 1) (ret := none) (by decide) (tx_isM mw_469) ?_
  intro p e s m args below meth c s₁ B hml hv
  obtain ⟨rfl, hsz, hI0, hK, hst0⟩ := hv
  have hx := B.exec
  have hb := B.bytes
  have hr := B.returns
  have hts := atoms_spec (ws := tw_tbl) B.pre
  have hown : s.vm.findClass "StoryMachine$Line" = some m.cls := findClass_of_methodNamed B.named
  have hlocks := B.notSynchronized
  subst hsz
  have hst := fun (H : Heap) (locs : List Loc) (hS : va_S (ga (adC a) s.heap.size) s.heap H locs) (U : State) (hU : U.heap = H) (hW : s.WarmedH U.vm) => zS_all adC_map hI0 hst0 hS hU hW
  have hAC : ∀ q ∈ adC a, ga (adC a) s.heap.size q := fun q h => Or.inl h
  have hA0 : ∀ q, s.heap.size ≤ q → ga (adC a) s.heap.size q := fun q h => Or.inr h
  have hI : sI (dC, dI) vcl cI cJ (gsC a he dp co li op wd tl lc fo sf lf nf) (ga (adC a) s.heap.size) s.heap s.heap [] := ⟨hI0, va_S.rf⟩
  clear hI0 hst0
  have hl := lv_entry ([.ref (a 2)]) (n := 1) (Nat.le_of_ble_eq_true rfl)
  rw [lg_entry_eq]
  generalize (lg_sl ([.ref (a 2)]) ++ List.replicate (1 - (lg_sl ([.ref (a 2)])).length) Slot.unset).toArray = ls at hl ⊢
  have hl : lv_has ls 1 [(0, .ref (a 2))] := hl
  generalize hZ : tz_MQ below (tq_Q (q_Li_clear dC dI cI cJ a he dp co li op wd tl lc fo sf lf nf) (ga (adC a) s.heap.size)) ([.ref (a 2)] : List Value).toArray s 0 0 0 0 (ga (adC a) s.heap.size) = Z
  obtain ⟨A, hAe⟩ : ∃ A, A = ga (adC a) s.heap.size := ⟨_, rfl⟩
  rw [← hAe] at hst hAC hA0 hI hZ
  refine sv_start hI (fun H locs hI => ?_)
  obtain ⟨⟨o1, o2⟩, ⟨o3, o4⟩, ⟨o5, o6⟩, ⟨o7, o8⟩, ⟨o9, o10⟩, ⟨o11, o12⟩, ⟨o13, o14⟩, ⟨o15, o16⟩, ⟨o17, o18⟩, o19, -, -⟩ := id hok
  refine lv_aload_n hx hb d_Li_clear_0 rfl (lv_at hl 0 rfl) ?_
  refine sn_iconst hx hb d_Li_clear_1 (by decide) (fun z20 hz20 => ?_)
  refine sv_put (C := "StoryMachine$Line") (T := T_Li) (N := 5) (ty := .int) hx hb hts in_Li t_Li tk_Li nm_Li hown hK (sh_in adC_map hAC) hI 2 kC_2 rfl 1 (by decide) (hts _ mw_55) rfl (by decide +kernel) rfl rfl (Nat.le_of_ble_eq_true rfl) (Int.le_refl _) (Int.le_refl _) pC_2_1 d_Li_clear_2 (fun H locs hI => ?_)
  refine lv_aload_n hx hb d_Li_clear_5 rfl (lv_at hl 0 rfl) ?_
  refine sn_iconst hx hb d_Li_clear_6 (by decide) (fun z21 hz21 => ?_)
  refine sv_put (C := "StoryMachine$Line") (T := T_Li) (N := 5) (ty := .boolean) hx hb hts in_Li t_Li tk_Li nm_Li hown hK (sh_in adC_map hAC) hI 2 kC_2 rfl 4 (by decide) (hts _ mw_61) rfl (by decide +kernel) (sn_bool (by omega) (by omega)).1 (sn_bool (by omega) (by omega)).2 (Nat.le_of_ble_eq_true rfl) (by omega) (by omega) pC_2_4 d_Li_clear_7 (fun H locs hI => ?_)
  have ho22 : okC he dp co li op wd z20.toInt lc fo sf lf nf := ⟨hok.1, hok.2.1, hok.2.2.1, hok.2.2.2.1, hok.2.2.2.2.1, hok.2.2.2.2.2.1, ⟨by omega, by omega⟩, hok.2.2.2.2.2.2.2.1, hok.2.2.2.2.2.2.2.2.1, hok.2.2.2.2.2.2.2.2.2.1, hok.2.2.2.2.2.2.2.2.2.2.1, hok.2.2.2.2.2.2.2.2.2.2.2⟩
  subst hZ
  exact tz_ret (W.vret hx hb hr (fun t ht hW => ⟨⟨fun v9 hv9 => by cases hv9; exact (⟨z20.toInt, rfl, ho22, by omega, by rw [ht]; exact hI.1⟩), fun x9 hx9 => (by cases hx9)⟩, hI.2.F ht⟩) hI.2.2.2 d_Li_clear_10)
abbrev q_Li_add (dC : Nat → ClassId) (dI : Nat → Nat → Nat) (cI cJ : ClassId) (a : Nat → Nat) (he dp co li op wd tl lc fo : Int) (sf lf nf : Nat → Int32) (x1 : Int32) : Outcome → State → Prop := fun o t => (∀ v, o = .returned v → ((∃ (tl_ : Int), v = none ∧ okC he dp co li op wd tl_ lc fo sf lf nf ∧ (1 ≤ tl_) ∧ sh_I (dC, dI) vcl cI cJ (gsC a he dp co li op wd tl_ lc fo sf lf nf) t.heap))) ∧ (∀ x, o = .threw x → (False))
def rm_Li_add : Room := { frames := 0, cells := 0, slots := 0, locals := 0 }
set_option maxHeartbeats 4000000 in
set_option maxRecDepth 100000 in
theorem c_Li_add (l : Launch) (hfl : l.flags = pinnedFlags ++ [noTraceFlag]) (dC : Nat → ClassId) (dI : Nat → Nat → Nat) (cI cJ : ClassId) (a : Nat → Nat) (sz : Nat) (he dp co li op wd tl lc fo : Int) (sf lf nf : Nat → Int32) (x1 : Int32) (hok : okC he dp co li op wd tl lc fo sf lf nf) : tz_Met l ⟨"StoryMachine$Line", "add", "(I)V"⟩ tw_tbl rm_Li_add (tzP (dC, dI) vcl cI cJ (gsC a he dp co li op wd tl lc fo sf lf nf) a (adC a) [.ref (a 2), .int x1] sz) (tq_Q (q_Li_add dC dI cI cJ a he dp co li op wd tl lc fo sf lf nf x1) (ga (adC a) sz)) 0 0 0 0 (ga (adC a) sz) := by
  refine tz_ofW (cc := prog_6_method_3_code) (maxL := 2) (ret := none) (by decide) (tx_isM mw_480) ?_
  intro p e s m args below meth c s₁ B hml hv
  obtain ⟨rfl, hsz, hI0, hK, hst0⟩ := hv
  have hx := B.exec
  have hb := B.bytes
  have hr := B.returns
  have hts := atoms_spec (ws := tw_tbl) B.pre
  have hown : s.vm.findClass "StoryMachine$Line" = some m.cls := findClass_of_methodNamed B.named
  have hlocks := B.notSynchronized
  subst hsz
  have hst := fun (H : Heap) (locs : List Loc) (hS : va_S (ga (adC a) s.heap.size) s.heap H locs) (U : State) (hU : U.heap = H) (hW : s.WarmedH U.vm) => zS_all adC_map hI0 hst0 hS hU hW
  have hAC : ∀ q ∈ adC a, ga (adC a) s.heap.size q := fun q h => Or.inl h
  have hA0 : ∀ q, s.heap.size ≤ q → ga (adC a) s.heap.size q := fun q h => Or.inr h
  have hI : sI (dC, dI) vcl cI cJ (gsC a he dp co li op wd tl lc fo sf lf nf) (ga (adC a) s.heap.size) s.heap s.heap [] := ⟨hI0, va_S.rf⟩
  clear hI0 hst0
  have hl := lv_entry ([.ref (a 2), .int x1]) (n := 2) (Nat.le_of_ble_eq_true rfl)
  rw [lg_entry_eq]
  generalize (lg_sl ([.ref (a 2), .int x1]) ++ List.replicate (2 - (lg_sl ([.ref (a 2), .int x1])).length) Slot.unset).toArray = ls at hl ⊢
  have hl : lv_has ls 2 [(0, .ref (a 2)), (1, .int x1)] := hl
  generalize hZ : tz_MQ below (tq_Q (q_Li_add dC dI cI cJ a he dp co li op wd tl lc fo sf lf nf x1) (ga (adC a) s.heap.size)) ([.ref (a 2), .int x1] : List Value).toArray s 0 0 0 0 (ga (adC a) s.heap.size) = Z
  obtain ⟨A, hAe⟩ : ∃ A, A = ga (adC a) s.heap.size := ⟨_, rfl⟩
  rw [← hAe] at hst hAC hA0 hI hZ
  refine sv_start hI (fun H locs hI => ?_)
  obtain ⟨⟨o1, o2⟩, ⟨o3, o4⟩, ⟨o5, o6⟩, ⟨o7, o8⟩, ⟨o9, o10⟩, ⟨o11, o12⟩, ⟨o13, o14⟩, ⟨o15, o16⟩, ⟨o17, o18⟩, o19, -, -⟩ := id hok
  have gx1 := sn_rng x1
  refine lv_aload_n hx hb d_Li_add_0 rfl (lv_at hl 0 rfl) ?_
  refine sv_gete (C := "StoryMachine$Line") (T := T_Li) (N := 5) hx hb hts in_Li hown hK hI 2 kC_2 rfl 1 (by decide) (hts _ mw_55) rfl d_Li_add_1 (fun z20 hz20 => ?_)
  refine sn_bipush hx hb d_Li_add_4 (by decide) (fun z21 hz21 => ?_)
  refine sn_icmp_ge (tgt := 29) hx hb d_Li_add_6 (by decide) (fun b22 => ?_) (fun b22 => ?_)
  · subst hZ
    exact tz_ret (W.vret hx hb hr (fun t ht hW => ⟨⟨fun v9 hv9 => by cases hv9; exact (⟨tl, rfl, hok, by omega, by rw [ht]; exact hI.1⟩), fun x9 hx9 => (by cases hx9)⟩, hI.2.F ht⟩) hI.2.2.2 d_Li_add_29)
  · refine lv_aload_n hx hb d_Li_add_9 rfl (lv_at hl 0 rfl) ?_
    refine sv_getr (C := "StoryMachine$Line") (T := T_Li) (N := 5) hx hb hts in_Li hown hK hI 2 kC_2 rfl 0 (by decide) (hts _ mw_54) rfl d_Li_add_10 ?_
    refine lv_aload_n hx hb d_Li_add_13 rfl (lv_at hl 0 rfl) ?_
    refine sv_gete (C := "StoryMachine$Line") (T := T_Li) (N := 5) hx hb hts in_Li hown hK hI 2 kC_2 rfl 1 (by decide) (hts _ mw_55) rfl d_Li_add_14 (fun z23 hz23 => ?_)
    refine lv_iload_n hx hb d_Li_add_17 rfl (lv_at hl 1 rfl) ?_
    refine sv_iastr hx hb hK (sh_in adC_map hAC) hI 7 kC_7 (by omega) (by omega) (by omega) (by omega) pC_7 d_Li_add_18 (fun H locs hI => ?_)
    refine lv_aload_n hx hb d_Li_add_19 rfl (lv_at hl 0 rfl) ?_
    refine lv_dup hx hb d_Li_add_20 rfl ?_
    refine sv_gete (C := "StoryMachine$Line") (T := T_Li) (N := 5) hx hb hts in_Li hown hK hI 2 kC_2 rfl 1 (by decide) (hts _ mw_55) rfl d_Li_add_21 (fun z24 hz24 => ?_)
    refine sn_iconst hx hb d_Li_add_24 (by decide) (fun z25 hz25 => ?_)
    refine sn_iadd hx hb d_Li_add_25 (by omega) (by omega) (fun z26 hz26 => ?_)
    refine sv_put (C := "StoryMachine$Line") (T := T_Li) (N := 5) (ty := .int) hx hb hts in_Li t_Li tk_Li nm_Li hown hK (sh_in adC_map hAC) hI 2 kC_2 rfl 1 (by decide) (hts _ mw_55) rfl (by decide +kernel) rfl rfl (Nat.le_of_ble_eq_true rfl) (Int.le_refl _) (Int.le_refl _) pC_2_1 d_Li_add_26 (fun H locs hI => ?_)
    have ho27 : okC he dp co li op wd z26.toInt lc fo sf lf nf := ⟨hok.1, hok.2.1, hok.2.2.1, hok.2.2.2.1, hok.2.2.2.2.1, hok.2.2.2.2.2.1, ⟨by omega, by omega⟩, hok.2.2.2.2.2.2.2.1, hok.2.2.2.2.2.2.2.2.1, hok.2.2.2.2.2.2.2.2.2.1, hok.2.2.2.2.2.2.2.2.2.2.1, hok.2.2.2.2.2.2.2.2.2.2.2⟩
    subst hZ
    exact tz_ret (W.vret hx hb hr (fun t ht hW => ⟨⟨fun v9 hv9 => by cases hv9; exact (⟨z26.toInt, rfl, ho27, by omega, by rw [ht]; exact hI.1⟩), fun x9 hx9 => (by cases hx9)⟩, hI.2.F ht⟩) hI.2.2.2 d_Li_add_29)
abbrev q_Li_finish (dC : Nat → ClassId) (dI : Nat → Nat → Nat) (cI cJ : ClassId) (a : Nat → Nat) (he dp co li op wd tl lc fo : Int) (sf lf nf : Nat → Int32) : Outcome → State → Prop := fun o t => (∀ v, o = .returned v → ((∃ (tl_ : Int), v = none ∧ okC he dp co li op wd tl_ lc fo sf lf nf ∧ (tl_ ≤ 0) ∧ sh_I (dC, dI) vcl cI cJ (gsC a he dp co li op wd tl_ lc fo sf lf nf) t.heap))) ∧ (∀ x, o = .threw x → (False))
def rm_Li_finish : Room := { frames := 0, cells := 0, slots := 0, locals := 0 }
set_option maxHeartbeats 4000000 in
set_option maxRecDepth 100000 in
theorem c_Li_finish (l : Launch) (hfl : l.flags = pinnedFlags ++ [noTraceFlag]) (dC : Nat → ClassId) (dI : Nat → Nat → Nat) (cI cJ : ClassId) (a : Nat → Nat) (sz : Nat) (he dp co li op wd tl lc fo : Int) (sf lf nf : Nat → Int32) (hok : okC he dp co li op wd tl lc fo sf lf nf) : tz_Met l ⟨"StoryMachine$Line", "finish", "()V"⟩ tw_tbl rm_Li_finish (tzP (dC, dI) vcl cI cJ (gsC a he dp co li op wd tl lc fo sf lf nf) a (adC a) [.ref (a 2)] sz) (tq_Q (q_Li_finish dC dI cI cJ a he dp co li op wd tl lc fo sf lf nf) (ga (adC a) sz)) 0 0 0 0 (ga (adC a) sz) := by
  refine tz_ofW (cc := prog_6_method_4_code) (maxL := 4) (ret := none) (by decide) (tx_isM mw_333) ?_
  intro p e s m args below meth c s₁ B hml hv
  obtain ⟨rfl, hsz, hI0, hK, hst0⟩ := hv
  have hx := B.exec
  have hb := B.bytes
  have hr := B.returns
  have hts := atoms_spec (ws := tw_tbl) B.pre
  have hown : s.vm.findClass "StoryMachine$Line" = some m.cls := findClass_of_methodNamed B.named
  have hlocks := B.notSynchronized
  subst hsz
  have hst := fun (H : Heap) (locs : List Loc) (hS : va_S (ga (adC a) s.heap.size) s.heap H locs) (U : State) (hU : U.heap = H) (hW : s.WarmedH U.vm) => zS_all adC_map hI0 hst0 hS hU hW
  have hAC : ∀ q ∈ adC a, ga (adC a) s.heap.size q := fun q h => Or.inl h
  have hA0 : ∀ q, s.heap.size ≤ q → ga (adC a) s.heap.size q := fun q h => Or.inr h
  have hI : sI (dC, dI) vcl cI cJ (gsC a he dp co li op wd tl lc fo sf lf nf) (ga (adC a) s.heap.size) s.heap s.heap [] := ⟨hI0, va_S.rf⟩
  clear hI0 hst0
  have hl := lv_entry ([.ref (a 2)]) (n := 4) (Nat.le_of_ble_eq_true rfl)
  rw [lg_entry_eq]
  generalize (lg_sl ([.ref (a 2)]) ++ List.replicate (4 - (lg_sl ([.ref (a 2)])).length) Slot.unset).toArray = ls at hl ⊢
  have hl : lv_has ls 4 [(0, .ref (a 2))] := hl
  generalize hZ : tz_MQ below (tq_Q (q_Li_finish dC dI cI cJ a he dp co li op wd tl lc fo sf lf nf) (ga (adC a) s.heap.size)) ([.ref (a 2)] : List Value).toArray s 0 0 0 0 (ga (adC a) s.heap.size) = Z
  obtain ⟨A, hAe⟩ : ∃ A, A = ga (adC a) s.heap.size := ⟨_, rfl⟩
  rw [← hAe] at hst hAC hA0 hI hZ
  refine sv_start hI (fun H locs hI => ?_)
  obtain ⟨⟨o1, o2⟩, ⟨o3, o4⟩, ⟨o5, o6⟩, ⟨o7, o8⟩, ⟨o9, o10⟩, ⟨o11, o12⟩, ⟨o13, o14⟩, ⟨o15, o16⟩, ⟨o17, o18⟩, o19, -, -⟩ := id hok
  have j2 : ∀ (n : Nat) (H : Heap) (locs : List Loc) (ls : Array Slot) (v2_1 : Int32), sI (dC, dI) vcl cI cJ (gsC a he dp co li op wd tl lc fo sf lf nf) A s.heap H locs → okC he dp co li op wd tl lc fo sf lf nf → 0 ≤ v2_1.toInt → v2_1.toInt ≤ 24 → lv_has ls 4 [(0, .ref (a 2)), (1, .int v2_1)] → 24 - v2_1.toInt < (n : Int) → W p l e (headSpec tw_tbl rm_Li_finish).room s m ([.ref (a 2)] : List Value).toArray below meth c H locs 0 0 Z (F0 m 2 ls []) := by
    intro n
    induction n with
    | zero => intro H locs ls v2_1 hI hok g2_0 g2_1 hl hme; exfalso; obtain ⟨⟨o20, o21⟩, ⟨o22, o23⟩, ⟨o24, o25⟩, ⟨o26, o27⟩, ⟨o28, o29⟩, ⟨o30, o31⟩, ⟨o32, o33⟩, ⟨o34, o35⟩, ⟨o36, o37⟩, o38, -, -⟩ := id hok; omega
    | succ n ih =>
      intro H locs ls v2_1 hI hok g2_0 g2_1 hl hme
      obtain ⟨⟨o39, o40⟩, ⟨o41, o42⟩, ⟨o43, o44⟩, ⟨o45, o46⟩, ⟨o47, o48⟩, ⟨o49, o50⟩, ⟨o51, o52⟩, ⟨o53, o54⟩, ⟨o55, o56⟩, o57, -, -⟩ := id hok
      have j33 : ∀ (H : Heap) (locs : List Loc) (ls : Array Slot) (v33_2 : Int32), sI (dC, dI) vcl cI cJ (gsC a he dp co li op wd tl lc fo sf lf nf) A s.heap H locs → okC he dp co li op wd tl lc fo sf lf nf → (-2147483648) ≤ v33_2.toInt → v33_2.toInt ≤ 2147483647 → 1 ≤ tl → v2_1.toInt ≤ 23 → lv_has ls 4 [(0, .ref (a 2)), (1, .int v2_1), (2, .int v33_2)] → W p l e (headSpec tw_tbl rm_Li_finish).room s m ([.ref (a 2)] : List Value).toArray below meth c H locs 0 0 Z (F0 m 33 ls []) := by
        intro H locs ls v33_2 hI hok g33_0 g33_1 g33_2 g33_3 hl
        obtain ⟨⟨o58, o59⟩, ⟨o60, o61⟩, ⟨o62, o63⟩, ⟨o64, o65⟩, ⟨o66, o67⟩, ⟨o68, o69⟩, ⟨o70, o71⟩, ⟨o72, o73⟩, ⟨o74, o75⟩, o76, -, -⟩ := id hok
        refine sn_iconst hx hb d_Li_finish_33 (by decide) (fun z77 hz77 => ?_)
        refine lv_istore_n (lv' := [(3, .int z77), (0, .ref (a 2)), (1, .int v2_1), (2, .int v33_2)]) hx hb d_Li_finish_34 rfl hl (by decide) rfl (fun ls hl => ?_)
        refine lv_aload_n hx hb d_Li_finish_35 rfl (lv_at hl 1 rfl) ?_
        refine sv_getr (C := "StoryMachine$Line") (T := T_Li) (N := 5) hx hb hts in_Li hown hK hI 2 kC_2 rfl 2 (by decide) (hts _ mw_57) rfl d_Li_finish_36 ?_
        refine lv_iload_n hx hb d_Li_finish_39 rfl (lv_at hl 2 rfl) ?_
        refine lv_iload_n hx hb d_Li_finish_40 rfl (lv_at hl 0 rfl) ?_
        refine sn_if_eq (tgt := 54) hx hb d_Li_finish_41 (by decide) (fun b78 => ?_) (fun b78 => ?_)
        · refine lv_iload_n hx hb d_Li_finish_54 rfl (lv_at hl 3 rfl) ?_
          refine sv_iastr hx hb hK (sh_in adC_map hAC) hI 8 kC_8 (by omega) (by omega) (by omega) (by omega) pC_8 d_Li_finish_55 (fun H locs hI => ?_)
          refine sn_iinc (k := 2) hx hb d_Li_finish_56 hl rfl (by decide) (by decide) (by omega) (by omega) (fun ls z79 hz79 hl => ?_)
          have hl : lv_has ls 4 [(1, .int z79), (3, .int z77), (0, .ref (a 2)), (2, .int v33_2)] := hl
          refine lv_goto (tgt := 2) hx hb d_Li_finish_59 (by decide) ?_
          exact ih _ _ _ z79 hI hok (by omega) (by omega) (lv_sub hl [2, 0] rfl) (by omega)
        · omega
      refine lv_iload_n hx hb d_Li_finish_2 rfl (lv_at hl 1 rfl) ?_
      refine lv_aload_n hx hb d_Li_finish_3 rfl (lv_at hl 0 rfl) ?_
      refine sv_gete (C := "StoryMachine$Line") (T := T_Li) (N := 5) hx hb hts in_Li hown hK hI 2 kC_2 rfl 1 (by decide) (hts _ mw_55) rfl d_Li_finish_4 (fun z80 hz80 => ?_)
      refine sn_icmp_ge (tgt := 62) hx hb d_Li_finish_7 (by decide) (fun b81 => ?_) (fun b81 => ?_)
      · refine lv_aload_n hx hb d_Li_finish_62 rfl (lv_at hl 0 rfl) ?_
        refine lv_aload_n hx hb d_Li_finish_63 rfl (lv_at hl 0 rfl) ?_
        refine sv_gete (C := "StoryMachine$Line") (T := T_Li) (N := 5) hx hb hts in_Li hown hK hI 2 kC_2 rfl 1 (by decide) (hts _ mw_55) rfl d_Li_finish_64 (fun z82 hz82 => ?_)
        refine sv_put (C := "StoryMachine$Line") (T := T_Li) (N := 5) (ty := .int) hx hb hts in_Li t_Li tk_Li nm_Li hown hK (sh_in adC_map hAC) hI 2 kC_2 rfl 3 (by decide) (hts _ mw_59) rfl (by decide +kernel) rfl rfl (Nat.le_of_ble_eq_true rfl) (by omega) (by omega) pC_2_3 d_Li_finish_67 (fun H locs hI => ?_)
        refine lv_aload_n hx hb d_Li_finish_70 rfl (lv_at hl 0 rfl) ?_
        refine sn_iconst hx hb d_Li_finish_71 (by decide) (fun z83 hz83 => ?_)
        refine sv_put (C := "StoryMachine$Line") (T := T_Li) (N := 5) (ty := .int) hx hb hts in_Li t_Li tk_Li nm_Li hown hK (sh_in adC_map hAC) hI 2 kC_2 rfl 1 (by decide) (hts _ mw_55) rfl (by decide +kernel) rfl rfl (Nat.le_of_ble_eq_true rfl) (Int.le_refl _) (Int.le_refl _) pC_2_1 d_Li_finish_72 (fun H locs hI => ?_)
        refine lv_aload_n hx hb d_Li_finish_75 rfl (lv_at hl 0 rfl) ?_
        refine sn_iconst hx hb d_Li_finish_76 (by decide) (fun z84 hz84 => ?_)
        refine sv_put (C := "StoryMachine$Line") (T := T_Li) (N := 5) (ty := .boolean) hx hb hts in_Li t_Li tk_Li nm_Li hown hK (sh_in adC_map hAC) hI 2 kC_2 rfl 4 (by decide) (hts _ mw_61) rfl (by decide +kernel) (sn_bool (by omega) (by omega)).1 (sn_bool (by omega) (by omega)).2 (Nat.le_of_ble_eq_true rfl) (by omega) (by omega) pC_2_4 d_Li_finish_77 (fun H locs hI => ?_)
        have ho85 : okC he dp co li op wd z83.toInt lc fo sf lf nf := ⟨hok.1, hok.2.1, hok.2.2.1, hok.2.2.2.1, hok.2.2.2.2.1, hok.2.2.2.2.2.1, ⟨by omega, by omega⟩, hok.2.2.2.2.2.2.2.1, hok.2.2.2.2.2.2.2.2.1, hok.2.2.2.2.2.2.2.2.2.1, hok.2.2.2.2.2.2.2.2.2.2.1, hok.2.2.2.2.2.2.2.2.2.2.2⟩
        subst hZ
        exact tz_ret (W.vret hx hb hr (fun t ht hW => ⟨⟨fun v9 hv9 => by cases hv9; exact (⟨z83.toInt, rfl, ho85, by omega, by rw [ht]; exact hI.1⟩), fun x9 hx9 => (by cases hx9)⟩, hI.2.F ht⟩) hI.2.2.2 d_Li_finish_80)
      · refine lv_aload_n hx hb d_Li_finish_10 rfl (lv_at hl 0 rfl) ?_
        refine sv_getr (C := "StoryMachine$Line") (T := T_Li) (N := 5) hx hb hts in_Li hown hK hI 2 kC_2 rfl 0 (by decide) (hts _ mw_54) rfl d_Li_finish_11 ?_
        refine lv_iload_n hx hb d_Li_finish_14 rfl (lv_at hl 1 rfl) ?_
        refine sv_ialdr hx hb hK hI 7 kC_7 (by omega) (by omega) d_Li_finish_15 (fun z86 hz86a hz86b => ?_)
        refine lv_istore_n (lv' := [(2, .int z86), (0, .ref (a 2)), (1, .int v2_1)]) hx hb d_Li_finish_16 rfl hl (by decide) rfl (fun ls hl => ?_)
        refine lv_iload_n hx hb d_Li_finish_17 rfl (lv_at hl 0 rfl) ?_
        refine sn_bipush hx hb d_Li_finish_18 (by decide) (fun z87 hz87 => ?_)
        refine sn_icmp_lt (tgt := 33) hx hb d_Li_finish_20 (by decide) (fun b88 => ?_) (fun b88 => ?_)
        · exact j33 _ _ _ z86 hI hok (by omega) (by omega) (by omega) (by omega) (lv_sub hl [1, 2, 0] rfl)
        · refine lv_iload_n hx hb d_Li_finish_23 rfl (lv_at hl 0 rfl) ?_
          refine sn_bipush hx hb d_Li_finish_24 (by decide) (fun z89 hz89 => ?_)
          refine sn_icmp_gt (tgt := 33) hx hb d_Li_finish_26 (by decide) (fun b90 => ?_) (fun b90 => ?_)
          · exact j33 _ _ _ z86 hI hok (by omega) (by omega) (by omega) (by omega) (lv_sub hl [1, 2, 0] rfl)
          · refine sn_iconst hx hb d_Li_finish_29 (by decide) (fun z91 hz91 => ?_)
            refine lv_goto (tgt := 34) hx hb d_Li_finish_30 (by decide) ?_
            refine lv_istore_n (lv' := [(3, .int z91), (2, .int z86), (0, .ref (a 2)), (1, .int v2_1)]) hx hb d_Li_finish_34 rfl hl (by decide) rfl (fun ls hl => ?_)
            refine lv_aload_n hx hb d_Li_finish_35 rfl (lv_at hl 2 rfl) ?_
            refine sv_getr (C := "StoryMachine$Line") (T := T_Li) (N := 5) hx hb hts in_Li hown hK hI 2 kC_2 rfl 2 (by decide) (hts _ mw_57) rfl d_Li_finish_36 ?_
            refine lv_iload_n hx hb d_Li_finish_39 rfl (lv_at hl 3 rfl) ?_
            refine lv_iload_n hx hb d_Li_finish_40 rfl (lv_at hl 0 rfl) ?_
            refine sn_if_eq (tgt := 54) hx hb d_Li_finish_41 (by decide) (fun b92 => ?_) (fun b92 => ?_)
            · omega
            · refine lv_iload_n hx hb d_Li_finish_44 rfl (lv_at hl 1 rfl) ?_
              refine sn_bipush hx hb d_Li_finish_45 (by decide) (fun z93 hz93 => ?_)
              refine sn_isub hx hb d_Li_finish_47 (by omega) (by omega) (fun z94 hz94 => ?_)
              refine sn_bipush hx hb d_Li_finish_48 (by decide) (fun z95 hz95 => ?_)
              refine sn_iadd hx hb d_Li_finish_50 (by omega) (by omega) (fun z96 hz96 => ?_)
              refine lv_goto (tgt := 55) hx hb d_Li_finish_51 (by decide) ?_
              refine sv_iastr hx hb hK (sh_in adC_map hAC) hI 8 kC_8 (by omega) (by omega) (by omega) (by omega) pC_8 d_Li_finish_55 (fun H locs hI => ?_)
              refine sn_iinc (k := 3) hx hb d_Li_finish_56 hl rfl (by decide) (by decide) (by omega) (by omega) (fun ls z97 hz97 hl => ?_)
              have hl : lv_has ls 4 [(1, .int z97), (3, .int z91), (2, .int z86), (0, .ref (a 2))] := hl
              refine lv_goto (tgt := 2) hx hb d_Li_finish_59 (by decide) ?_
              exact ih _ _ _ z97 hI hok (by omega) (by omega) (lv_sub hl [3, 0] rfl) (by omega)
  refine sn_iconst hx hb d_Li_finish_0 (by decide) (fun z98 hz98 => ?_)
  refine lv_istore_n (lv' := [(1, .int z98), (0, .ref (a 2))]) hx hb d_Li_finish_1 rfl hl (by decide) rfl (fun ls hl => ?_)
  exact j2 25 _ _ _ z98 hI hok (by omega) (by omega) (lv_sub hl [1, 0] rfl) (by omega)
abbrev q_Pr_put (dC : Nat → ClassId) (dI : Nat → Nat → Nat) (cI cJ : ClassId) (a : Nat → Nat) (he dp co li op wd tl lc fo : Int) (sf lf nf : Nat → Int32) (x1 : Int32) : Outcome → State → Prop := fun o t => (∀ v, o = .returned v → ((v = none ∧ okC he dp co li op wd tl lc fo sf lf nf ∧ sh_I (dC, dI) vcl cI cJ (gsC a he dp co li op wd tl lc fo sf lf nf) t.heap))) ∧ (∀ x, o = .threw x → (False))
def rm_Pr_put : Room := { frames := 0, cells := 0, slots := 0, locals := 0 }
set_option maxHeartbeats 4000000 in
set_option maxRecDepth 100000 in
theorem c_Pr_put (l : Launch) (hfl : l.flags = pinnedFlags ++ [noTraceFlag]) (dC : Nat → ClassId) (dI : Nat → Nat → Nat) (cI cJ : ClassId) (a : Nat → Nat) (sz : Nat) (he dp co li op wd tl lc fo : Int) (sf lf nf : Nat → Int32) (x1 : Int32) (hok : okC he dp co li op wd tl lc fo sf lf nf) : tz_Met l ⟨"StoryMachine$Printer", "put", "(I)V"⟩ tw_tbl rm_Pr_put (tzP (dC, dI) vcl cI cJ (gsC a he dp co li op wd tl lc fo sf lf nf) a (adC a) [.ref (a 4), .int x1] sz) (tq_Q (q_Pr_put dC dI cI cJ a he dp co li op wd tl lc fo sf lf nf x1) (ga (adC a) sz)) 0 0 0 0 (ga (adC a) sz) := by
  refine tz_ofW (cc := prog_8_method_2_code) (maxL := 2) (ret := none) (by decide) (tx_isM mw_653) ?_
  intro p e s m args below meth c s₁ B hml hv
  obtain ⟨rfl, hsz, hI0, hK, hst0⟩ := hv
  have hx := B.exec
  have hb := B.bytes
  have hr := B.returns
  have hts := atoms_spec (ws := tw_tbl) B.pre
  have hown : s.vm.findClass "StoryMachine$Printer" = some m.cls := findClass_of_methodNamed B.named
  have hlocks := B.notSynchronized
  subst hsz
  have hst := fun (H : Heap) (locs : List Loc) (hS : va_S (ga (adC a) s.heap.size) s.heap H locs) (U : State) (hU : U.heap = H) (hW : s.WarmedH U.vm) => zS_all adC_map hI0 hst0 hS hU hW
  have hAC : ∀ q ∈ adC a, ga (adC a) s.heap.size q := fun q h => Or.inl h
  have hA0 : ∀ q, s.heap.size ≤ q → ga (adC a) s.heap.size q := fun q h => Or.inr h
  have hI : sI (dC, dI) vcl cI cJ (gsC a he dp co li op wd tl lc fo sf lf nf) (ga (adC a) s.heap.size) s.heap s.heap [] := ⟨hI0, va_S.rf⟩
  clear hI0 hst0
  have hl := lv_entry ([.ref (a 4), .int x1]) (n := 2) (Nat.le_of_ble_eq_true rfl)
  rw [lg_entry_eq]
  generalize (lg_sl ([.ref (a 4), .int x1]) ++ List.replicate (2 - (lg_sl ([.ref (a 4), .int x1])).length) Slot.unset).toArray = ls at hl ⊢
  have hl : lv_has ls 2 [(0, .ref (a 4)), (1, .int x1)] := hl
  generalize hZ : tz_MQ below (tq_Q (q_Pr_put dC dI cI cJ a he dp co li op wd tl lc fo sf lf nf x1) (ga (adC a) s.heap.size)) ([.ref (a 4), .int x1] : List Value).toArray s 0 0 0 0 (ga (adC a) s.heap.size) = Z
  obtain ⟨A, hAe⟩ : ∃ A, A = ga (adC a) s.heap.size := ⟨_, rfl⟩
  rw [← hAe] at hst hAC hA0 hI hZ
  refine sv_start hI (fun H locs hI => ?_)
  obtain ⟨⟨o1, o2⟩, ⟨o3, o4⟩, ⟨o5, o6⟩, ⟨o7, o8⟩, ⟨o9, o10⟩, ⟨o11, o12⟩, ⟨o13, o14⟩, ⟨o15, o16⟩, ⟨o17, o18⟩, o19, -, -⟩ := id hok
  have gx1 := sn_rng x1
  refine lv_aload_n hx hb d_Pr_put_0 rfl (lv_at hl 0 rfl) ?_
  refine sv_getr (C := "StoryMachine$Printer") (T := T_Pr) (N := 5) hx hb hts in_Pr hown hK hI 4 kC_4 rfl 1 (by decide) (hts _ mw_115) rfl d_Pr_put_1 ?_
  refine lv_aload_n hx hb d_Pr_put_4 rfl (lv_at hl 0 rfl) ?_
  refine sv_get (C := "StoryMachine$Printer") (T := T_Pr) (N := 5) hx hb hts in_Pr hown hK hI 4 kC_4 rfl 2 (by decide) (hts _ mw_116) rfl d_Pr_put_5 (fun z20 hz20a hz20b => ?_)
  refine sn_bipush hx hb d_Pr_put_8 (by decide) (fun z21 hz21 => ?_)
  refine sn_iand (k := 6) (M := 63) hx hb d_Pr_put_10 (by decide) (by decide) (by omega) (fun z22 hz22a hz22b hz22c => ?_)
  clear hz22c
  refine lv_iload_n hx hb d_Pr_put_11 rfl (lv_at hl 1 rfl) ?_
  refine sv_iastr hx hb hK (sh_in adC_map hAC) hI 15 kC_15 (by omega) (by omega) (by omega) (by omega) pC_15 d_Pr_put_12 (fun H locs hI => ?_)
  refine lv_aload_n hx hb d_Pr_put_13 rfl (lv_at hl 0 rfl) ?_
  refine lv_dup hx hb d_Pr_put_14 rfl ?_
  refine sv_get (C := "StoryMachine$Printer") (T := T_Pr) (N := 5) hx hb hts in_Pr hown hK hI 4 kC_4 rfl 2 (by decide) (hts _ mw_116) rfl d_Pr_put_15 (fun z23 hz23a hz23b => ?_)
  refine sn_iconst hx hb d_Pr_put_18 (by decide) (fun z24 hz24 => ?_)
  refine sn_iaddT hx hb d_Pr_put_19 (fun z25 hz25a hz25b => ?_)
  refine sv_put (C := "StoryMachine$Printer") (T := T_Pr) (N := 5) (ty := .int) hx hb hts in_Pr t_Pr tk_Pr nm_Pr hown hK (sh_in adC_map hAC) hI 4 kC_4 rfl 2 (by decide) (hts _ mw_116) rfl (by decide +kernel) rfl rfl (Nat.le_of_ble_eq_true rfl) (by omega) (by omega) pC_4_2 d_Pr_put_20 (fun H locs hI => ?_)
  subst hZ
  exact tz_ret (W.vret hx hb hr (fun t ht hW => ⟨⟨fun v9 hv9 => by cases hv9; exact (⟨rfl, hok, by rw [ht]; exact hI.1⟩), fun x9 hx9 => (by cases hx9)⟩, hI.2.F ht⟩) hI.2.2.2 d_Pr_put_23)
