abbrev q_Va_write (dC : Nat → ClassId) (dI : Nat → Nat → Nat) (cI cJ : ClassId) (a : Nat → Nat) (he dp co li op wd tl lc : Int) (sf lf : Nat → Int32) (x1 : Int32) (x2 : Int32) (x3 : Int32) : Outcome → State → Prop := fun o t => (∀ v, o = .returned v → ((∃ (he_ : Int), v = none ∧ okC he_ dp co li op wd tl lc sf lf ∧ 0 ≤ x1.toInt ∧ x1.toInt ≤ 47 ∧ sh_I (dC, dI) vcl cI cJ (gsC a he_ dp co li op wd tl lc sf lf) t.heap))) ∧ (∀ x, o = .threw x → ((ta_Ex "java/lang/IllegalArgumentException" x t ∧ okC he dp co li op wd tl lc sf lf ∧ sh_I (dC, dI) vcl cI cJ (gsC a he dp co li op wd tl lc sf lf) t.heap) ∨ (ta_Ex "java/lang/IllegalStateException" x t ∧ okC he dp co li op wd tl lc sf lf ∧ 0 ≤ x1.toInt ∧ x1.toInt ≤ 0 ∧ sh_I (dC, dI) vcl cI cJ (gsC a he dp co li op wd tl lc sf lf) t.heap)))
def rm_Va_write : Room := { frames := 9, cells := 1, slots := 6, locals := 172 }
set_option maxHeartbeats 4000000 in
set_option maxRecDepth 100000 in
theorem c_Va_write (l : Launch) (hfl : l.flags = pinnedFlags ++ [noTraceFlag]) (dC : Nat → ClassId) (dI : Nat → Nat → Nat) (cI cJ : ClassId) (a : Nat → Nat) (sz : Nat) (he dp co li op wd tl lc : Int) (sf lf : Nat → Int32) (x1 : Int32) (x2 : Int32) (x3 : Int32) (hok : okC he dp co li op wd tl lc sf lf) : tz_Met l ⟨"StoryMachine$Variables", "write", "(IIZ)V"⟩ tw_tbl rm_Va_write (tzP (dC, dI) vcl cI cJ (gsC a he dp co li op wd tl lc sf lf) (adC a) [.ref (a 16), .int x1, .int x2, .int x3] sz) (tq_Q (q_Va_write dC dI cI cJ a he dp co li op wd tl lc sf lf x1 x2 x3) (ga (adC a) sz)) 0 0 1 6 (ga (adC a) sz) := by
  refine tz_ofW (cc := prog_11_method_3_code) (maxL := 4) (ret := none) (by decide) (tx_isM mw_619) ?_
  intro p e s m args below meth c s₁ B hml hv
  obtain ⟨rfl, hsz, hI0, hK, hst0⟩ := hv
  have hx := B.exec
  have hb := B.bytes
  have hr := B.returns
  have hts := atoms_spec (ws := tw_tbl) B.pre
  have hown : s.vm.findClass "StoryMachine$Variables" = some m.cls := findClass_of_methodNamed B.named
  have hlocks := B.notSynchronized
  subst hsz
  have hst := fun (H : Heap) (locs : List Loc) (hS : va_S (ga (adC a) s.heap.size) s.heap H locs) (U : State) (hU : U.heap = H) (hW : s.WarmedH U.vm) => zS_all adC_map hI0 hst0 hS hU hW
  have hAC : ∀ q ∈ adC a, ga (adC a) s.heap.size q := fun q h => Or.inl h
  have hA0 : ∀ q, s.heap.size ≤ q → ga (adC a) s.heap.size q := fun q h => Or.inr h
  have hI : sI (dC, dI) vcl cI cJ (gsC a he dp co li op wd tl lc sf lf) (ga (adC a) s.heap.size) s.heap s.heap [] := ⟨hI0, va_S.rf⟩
  clear hI0 hst0
  have hl := lv_entry ([.ref (a 16), .int x1, .int x2, .int x3]) (n := 4) (Nat.le_of_ble_eq_true rfl)
  rw [lg_entry_eq]
  generalize (lg_sl ([.ref (a 16), .int x1, .int x2, .int x3]) ++ List.replicate (4 - (lg_sl ([.ref (a 16), .int x1, .int x2, .int x3])).length) Slot.unset).toArray = ls at hl ⊢
  have hl : lv_has ls 4 [(0, .ref (a 16)), (1, .int x1), (2, .int x2), (3, .int x3)] := hl
  generalize hZ : tz_MQ below (tq_Q (q_Va_write dC dI cI cJ a he dp co li op wd tl lc sf lf x1 x2 x3) (ga (adC a) s.heap.size)) ([.ref (a 16), .int x1, .int x2, .int x3] : List Value).toArray s 0 0 1 6 (ga (adC a) s.heap.size) = Z
  obtain ⟨A, hAe⟩ : ∃ A, A = ga (adC a) s.heap.size := ⟨_, rfl⟩
  rw [← hAe] at hst hAC hA0 hI hZ
  refine sv_start hI (fun H locs hI => ?_)
  obtain ⟨⟨o1, o2⟩, ⟨o3, o4⟩, ⟨o5, o6⟩, ⟨o7, o8⟩, ⟨o9, o10⟩, ⟨o11, o12⟩, ⟨o13, o14⟩, ⟨o15, o16⟩, o17, -⟩ := id hok
  have gx1 := sn_rng x1
  have gx2 := sn_rng x2
  have gx3 := sn_rng x3
  have j19 : ∀ (H : Heap) (locs : List Loc) (ls : Array Slot), sI (dC, dI) vcl cI cJ (gsC a he dp co li op wd tl lc sf lf) A s.heap H locs → okC he dp co li op wd tl lc sf lf → lv_has ls 4 [(0, .ref (a 16)), (1, .int x1), (2, .int x2), (3, .int x3)] → W p l e (headSpec tw_tbl rm_Va_write).room s m ([.ref (a 16), .int x1, .int x2, .int x3] : List Value).toArray below meth c H locs 0 0 Z (F0 m 19 ls []) := by
    intro H locs ls hI hok hl
    obtain ⟨⟨o18, o19⟩, ⟨o20, o21⟩, ⟨o22, o23⟩, ⟨o24, o25⟩, ⟨o26, o27⟩, ⟨o28, o29⟩, ⟨o30, o31⟩, ⟨o32, o33⟩, o34, -⟩ := id hok
    refine lv_iload_n hx hb d_Va_write_19 rfl (lv_at hl 1 rfl) ?_
    refine sn_if_ne (tgt := 34) hx hb d_Va_write_20 (by decide) (fun b35 => ?_) (fun b35 => ?_)
    · refine lv_iload_n hx hb d_Va_write_34 rfl (lv_at hl 1 rfl) ?_
      refine sn_bipush hx hb d_Va_write_35 (by decide) (fun z36 hz36 => ?_)
      refine sn_icmp_ge (tgt := 52) hx hb d_Va_write_37 (by decide) (fun b37 => ?_) (fun b37 => ?_)
      · refine lv_aload_n hx hb d_Va_write_52 rfl (lv_at hl 0 rfl) ?_
        refine sv_getr (C := "StoryMachine$Variables") (T := T_Va) (N := 2) hx hb hts in_Va hown hK hI 16 kC_16 rfl 0 (by decide) (hts _ mw_168) rfl d_Va_write_53 ?_
        refine lv_aload_n hx hb d_Va_write_56 rfl (lv_at hl 0 rfl) ?_
        refine lv_iload_n hx hb d_Va_write_57 rfl (lv_at hl 1 rfl) ?_
        refine tz_call (A1 := ga (adC a) H.size) (tz_runV (C := "StoryMachine$Variables") (As := [.int x1]) (rest := [.ref (a 1)]) ⟨hx, hb, hml, hown, hts⟩ (c_Va_globalPlace l hfl dC dI cI cJ a H.size he dp co li op wd tl lc sf lf x1 hok) (tx_cb (n := 1) hts rfl rfl ⟨Nat.le_of_ble_eq_true rfl, Nat.le_of_ble_eq_true rfl⟩ (tx_code.of (hts _ mw_559)) (hts _ mw_8) (by decide +kernel) (hts _ mw_556)) (hts _ mw_558) (hts _ ms_Va_globalPlace) ⟨tz_blind, sv_recv (q0 := 16) hts in_Va hK hI kC_16 rfl, fun U hU hW => ⟨rfl, by rw [hU], by rw [hU]; exact hI.1, va_K.moved hW.alike hK, hst _ _ hI.2 U hU hW⟩⟩ rfl rfl hl.1 rfl (lv_room (Nat.le_of_ble_eq_true rfl)) d_Va_write_58 ⟨Nat.le_of_ble_eq_true rfl, Nat.le_of_ble_eq_true rfl⟩) hI.2 (fun q _ h => ga_sub hAC hA0 hI.2 q h) (ga_sub hAC hA0 hI.2) (fun v t H1 locs1 ht hWt hpost _ _ hS => ?_) (fun x t H1 locs1 ht hWt hpost _ _ hS => ?_)
        · rcases hpost.1 _ rfl with ⟨z38, hv, c39, c39_0, c39_1, c39_2, hI1⟩
          cases hv
          have hI : sI (dC, dI) vcl cI cJ (gsC a he dp co li op wd tl lc sf lf) A s.heap H1 locs1 := ⟨by rw [← ht]; exact hI1, hS⟩
          clear hpost hI1 hS ht hWt
          revert hI; generalize H1 = H; generalize locs1 = locs; intro hI
          refine lv_iload_n hx hb d_Va_write_61 rfl (lv_at hl 2 rfl) ?_
          refine tz_call (A1 := ga (adC a) H.size) (tz_runV (C := "StoryMachine$Memory") (As := [.int z38, .int x2]) (rest := []) ⟨hx, hb, hml, hown, hts⟩ (c_Me_writeWord l hfl dC dI cI cJ a H.size he dp co li op wd tl lc sf lf z38 x2 c39) (tx_cb (n := 2) hts rfl rfl ⟨Nat.le_of_ble_eq_true rfl, Nat.le_of_ble_eq_true rfl⟩ (tx_code.of (hts _ mw_636)) (hts _ mw_2) (by decide +kernel) (hts _ mw_633)) (hts _ mw_634) (hts _ mw_635) ⟨tz_blind, sv_recv (q0 := 1) hts in_Me hK hI kC_1 rfl, fun U hU hW => ⟨rfl, by rw [hU], by rw [hU]; exact hI.1, va_K.moved hW.alike hK, hst _ _ hI.2 U hU hW⟩⟩ rfl rfl hl.1 rfl (lv_room (Nat.le_of_ble_eq_true rfl)) d_Va_write_62 ⟨Nat.le_of_ble_eq_true rfl, Nat.le_of_ble_eq_true rfl⟩) hI.2 (fun q _ h => ga_sub hAC hA0 hI.2 q h) (ga_sub hAC hA0 hI.2) (fun v t H1 locs1 ht hWt hpost _ _ hS => ?_) (fun x t H1 locs1 ht hWt hpost _ _ hS => ?_)
          · rcases hpost.1 _ rfl with ⟨hv, c40, c40_0, c40_1, hI1⟩
            cases hv
            have hI : sI (dC, dI) vcl cI cJ (gsC a he dp co li op wd tl lc sf lf) A s.heap H1 locs1 := ⟨by rw [← ht]; exact hI1, hS⟩
            clear hpost hI1 hS ht hWt
            revert hI; generalize H1 = H; generalize locs1 = locs; intro hI
            subst hZ
            exact tz_ret (W.vret hx hb hr (fun t ht hW => ⟨⟨fun v9 hv9 => by cases hv9; exact (⟨he, rfl, c40, by omega, by omega, by rw [ht]; exact hI.1⟩), fun x9 hx9 => (by cases hx9)⟩, hI.2.F ht⟩) hI.2.2.2 d_Va_write_65)
          · rcases hpost.2 _ rfl with ⟨hex, c41, hI1⟩
            have hI : sI (dC, dI) vcl cI cJ (gsC a he dp co li op wd tl lc sf lf) A s.heap H1 locs1 := ⟨by rw [← ht]; exact hI1, hS⟩
            refine tz_widen (k := 1) (n := 6) (Nat.le_of_ble_eq_true rfl) (Nat.le_of_ble_eq_true rfl) ?_
            subst hZ
            exact tz_leave (tx_noH B (hts _ mw_619) _) (fun t9 ht9 hW9 => ⟨⟨fun v9 hv9 => (by cases hv9), fun x9 hx9 => by cases hx9; exact (Or.inl ⟨ta_exm hex ht ht9 hWt hW9, c41, by rw [ht9]; exact hI.1⟩)⟩, hI.2.F ht9⟩) hI.2.2.2 hlocks
        · rcases hpost.2 _ rfl with ⟨hex, c42, hI1⟩
          have hI : sI (dC, dI) vcl cI cJ (gsC a he dp co li op wd tl lc sf lf) A s.heap H1 locs1 := ⟨by rw [← ht]; exact hI1, hS⟩
          refine tz_widen (k := 1) (n := 6) (Nat.le_of_ble_eq_true rfl) (Nat.le_of_ble_eq_true rfl) ?_
          subst hZ
          exact tz_leave (tx_noH B (hts _ mw_619) _) (fun t9 ht9 hW9 => ⟨⟨fun v9 hv9 => (by cases hv9), fun x9 hx9 => by cases hx9; exact (Or.inl ⟨ta_exm hex ht ht9 hWt hW9, c42, by rw [ht9]; exact hI.1⟩)⟩, hI.2.F ht9⟩) hI.2.2.2 hlocks
      · refine lv_aload_n hx hb d_Va_write_40 rfl (lv_at hl 0 rfl) ?_
        refine sv_getr (C := "StoryMachine$Variables") (T := T_Va) (N := 2) hx hb hts in_Va hown hK hI 16 kC_16 rfl 1 (by decide) (hts _ mw_169) rfl d_Va_write_41 ?_
        refine lv_iload_n hx hb d_Va_write_44 rfl (lv_at hl 1 rfl) ?_
        refine lv_iload_n hx hb d_Va_write_45 rfl (lv_at hl 2 rfl) ?_
        refine tz_call (A1 := ga (adC a) H.size) (tz_runV (C := "StoryMachine$Routines") (As := [.int x1, .int x2]) (rest := []) ⟨hx, hb, hml, hown, hts⟩ (c_Ro_setLocal l hfl dC dI cI cJ a H.size he dp co li op wd tl lc sf lf x1 x2 hok) (tx_cb (n := 2) hts rfl rfl ⟨Nat.le_of_ble_eq_true rfl, Nat.le_of_ble_eq_true rfl⟩ (tx_code.of (hts _ mw_632)) (hts _ mw_4) (by decide +kernel) (hts _ mw_629)) (hts _ mw_630) (hts _ mw_631) ⟨tz_blind, sv_recv (q0 := 3) hts in_Ro hK hI kC_3 rfl, fun U hU hW => ⟨rfl, by rw [hU], by rw [hU]; exact hI.1, va_K.moved hW.alike hK, hst _ _ hI.2 U hU hW⟩⟩ rfl rfl hl.1 rfl (lv_room (Nat.le_of_ble_eq_true rfl)) d_Va_write_46 ⟨Nat.le_of_ble_eq_true rfl, Nat.le_of_ble_eq_true rfl⟩) hI.2 (fun q _ h => ga_sub hAC hA0 hI.2 q h) (ga_sub hAC hA0 hI.2) (fun v t H1 locs1 ht hWt hpost _ _ hS => ?_) (fun x t H1 locs1 ht hWt hpost _ _ hS => ?_)
        · rcases hpost.1 _ rfl with ⟨hv, c43, c43_0, c43_1, hI1⟩
          cases hv
          have hI : sI (dC, dI) vcl cI cJ (gsC a he dp co li op wd tl lc sf lf) A s.heap H1 locs1 := ⟨by rw [← ht]; exact hI1, hS⟩
          clear hpost hI1 hS ht hWt
          revert hI; generalize H1 = H; generalize locs1 = locs; intro hI
          refine lv_goto (tgt := 65) hx hb d_Va_write_49 (by decide) ?_
          subst hZ
          exact tz_ret (W.vret hx hb hr (fun t ht hW => ⟨⟨fun v9 hv9 => by cases hv9; exact (⟨he, rfl, c43, by omega, by omega, by rw [ht]; exact hI.1⟩), fun x9 hx9 => (by cases hx9)⟩, hI.2.F ht⟩) hI.2.2.2 d_Va_write_65)
        · rcases hpost.2 _ rfl with ⟨hex, c44, hI1⟩
          have hI : sI (dC, dI) vcl cI cJ (gsC a he dp co li op wd tl lc sf lf) A s.heap H1 locs1 := ⟨by rw [← ht]; exact hI1, hS⟩
          refine tz_widen (k := 1) (n := 6) (Nat.le_of_ble_eq_true rfl) (Nat.le_of_ble_eq_true rfl) ?_
          subst hZ
          exact tz_leave (tx_noH B (hts _ mw_619) _) (fun t9 ht9 hW9 => ⟨⟨fun v9 hv9 => (by cases hv9), fun x9 hx9 => by cases hx9; exact (Or.inl ⟨ta_exm hex ht ht9 hWt hW9, c44, by rw [ht9]; exact hI.1⟩)⟩, hI.2.F ht9⟩) hI.2.2.2 hlocks
    · refine lv_aload_n hx hb d_Va_write_23 rfl (lv_at hl 0 rfl) ?_
      refine sv_getr (C := "StoryMachine$Variables") (T := T_Va) (N := 2) hx hb hts in_Va hown hK hI 16 kC_16 rfl 1 (by decide) (hts _ mw_169) rfl d_Va_write_24 ?_
      refine lv_iload_n hx hb d_Va_write_27 rfl (lv_at hl 2 rfl) ?_
      refine tz_call (A1 := ga (adC a) H.size) (tz_runV (C := "StoryMachine$Routines") (As := [.int x2]) (rest := []) ⟨hx, hb, hml, hown, hts⟩ (c_Ro_push l hfl dC dI cI cJ a H.size he dp co li op wd tl lc sf lf x2 hok) (tx_cb (n := 1) hts rfl rfl ⟨Nat.le_of_ble_eq_true rfl, Nat.le_of_ble_eq_true rfl⟩ (tx_code.of (hts _ mw_628)) (hts _ mw_4) (by decide +kernel) (hts _ mw_625)) (hts _ mw_626) (hts _ mw_627) ⟨tz_blind, sv_recv (q0 := 3) hts in_Ro hK hI kC_3 rfl, fun U hU hW => ⟨rfl, by rw [hU], by rw [hU]; exact hI.1, va_K.moved hW.alike hK, hst _ _ hI.2 U hU hW⟩⟩ rfl rfl hl.1 rfl (lv_room (Nat.le_of_ble_eq_true rfl)) d_Va_write_28 ⟨Nat.le_of_ble_eq_true rfl, Nat.le_of_ble_eq_true rfl⟩) hI.2 (fun q _ h => ga_sub hAC hA0 hI.2 q h) (ga_sub hAC hA0 hI.2) (fun v t H1 locs1 ht hWt hpost _ _ hS => ?_) (fun x t H1 locs1 ht hWt hpost _ _ hS => ?_)
      · rcases hpost.1 _ rfl with ⟨t_he45, hv, c46, c46_0, c46_1, hI1⟩
        cases hv
        have hI : sI (dC, dI) vcl cI cJ (gsC a t_he45 dp co li op wd tl lc sf lf) A s.heap H1 locs1 := ⟨by rw [← ht]; exact hI1, hS⟩
        obtain ⟨⟨o47, o48⟩, -, -, -, -, -, -, -, -, -⟩ := id c46
        clear hpost hI1 hS ht hWt
        revert hI; generalize H1 = H; generalize locs1 = locs; intro hI
        refine lv_goto (tgt := 65) hx hb d_Va_write_31 (by decide) ?_
        subst hZ
        exact tz_ret (W.vret hx hb hr (fun t ht hW => ⟨⟨fun v9 hv9 => by cases hv9; exact (⟨t_he45, rfl, c46, by omega, by omega, by rw [ht]; exact hI.1⟩), fun x9 hx9 => (by cases hx9)⟩, hI.2.F ht⟩) hI.2.2.2 d_Va_write_65)
      · rcases hpost.2 _ rfl with ⟨hex, c49, c49_0, hI1⟩
        have hI : sI (dC, dI) vcl cI cJ (gsC a he dp co li op wd tl lc sf lf) A s.heap H1 locs1 := ⟨by rw [← ht]; exact hI1, hS⟩
        refine tz_widen (k := 1) (n := 6) (Nat.le_of_ble_eq_true rfl) (Nat.le_of_ble_eq_true rfl) ?_
        subst hZ
        exact tz_leave (tx_noH B (hts _ mw_619) _) (fun t9 ht9 hW9 => ⟨⟨fun v9 hv9 => (by cases hv9), fun x9 hx9 => by cases hx9; exact (Or.inr (⟨ta_exm hex ht ht9 hWt hW9, c49, by omega, by omega, by rw [ht9]; exact hI.1⟩))⟩, hI.2.F ht9⟩) hI.2.2.2 hlocks
  refine lv_iload_n hx hb d_Va_write_0 rfl (lv_at hl 1 rfl) ?_
  refine sn_if_ne (tgt := 19) hx hb d_Va_write_1 (by decide) (fun b50 => ?_) (fun b50 => ?_)
  · exact j19 _ _ _  hI hok (lv_sub hl [0, 1, 2, 3] rfl)
  · refine lv_iload_n hx hb d_Va_write_4 rfl (lv_at hl 3 rfl) ?_
    refine sn_if_eq (tgt := 19) hx hb d_Va_write_5 (by decide) (fun b51 => ?_) (fun b51 => ?_)
    · exact j19 _ _ _  hI hok (lv_sub hl [0, 1, 2, 3] rfl)
    · refine lv_aload_n hx hb d_Va_write_8 rfl (lv_at hl 0 rfl) ?_
      refine sv_getr (C := "StoryMachine$Variables") (T := T_Va) (N := 2) hx hb hts in_Va hown hK hI 16 kC_16 rfl 1 (by decide) (hts _ mw_169) rfl d_Va_write_9 ?_
      refine lv_iload_n hx hb d_Va_write_12 rfl (lv_at hl 2 rfl) ?_
      refine tz_call (A1 := ga (adC a) H.size) (tz_runV (C := "StoryMachine$Routines") (As := [.int x2]) (rest := []) ⟨hx, hb, hml, hown, hts⟩ (c_Ro_replaceTop l hfl dC dI cI cJ a H.size he dp co li op wd tl lc sf lf x2 hok) (tx_cb (n := 1) hts rfl rfl ⟨Nat.le_of_ble_eq_true rfl, Nat.le_of_ble_eq_true rfl⟩ (tx_code.of (hts _ mw_623)) (hts _ mw_4) (by decide +kernel) (hts _ mw_620)) (hts _ mw_621) (hts _ mw_622) ⟨tz_blind, sv_recv (q0 := 3) hts in_Ro hK hI kC_3 rfl, fun U hU hW => ⟨rfl, by rw [hU], by rw [hU]; exact hI.1, va_K.moved hW.alike hK, hst _ _ hI.2 U hU hW⟩⟩ rfl rfl hl.1 rfl (lv_room (Nat.le_of_ble_eq_true rfl)) d_Va_write_13 ⟨Nat.le_of_ble_eq_true rfl, Nat.le_of_ble_eq_true rfl⟩) hI.2 (fun q _ h => ga_sub hAC hA0 hI.2 q h) (ga_sub hAC hA0 hI.2) (fun v t H1 locs1 ht hWt hpost _ _ hS => ?_) (fun x t H1 locs1 ht hWt hpost _ _ hS => ?_)
      · rcases hpost.1 _ rfl with ⟨hv, c52, c52_0, hI1⟩
        cases hv
        have hI : sI (dC, dI) vcl cI cJ (gsC a he dp co li op wd tl lc sf lf) A s.heap H1 locs1 := ⟨by rw [← ht]; exact hI1, hS⟩
        clear hpost hI1 hS ht hWt
        revert hI; generalize H1 = H; generalize locs1 = locs; intro hI
        refine lv_goto (tgt := 65) hx hb d_Va_write_16 (by decide) ?_
        subst hZ
        exact tz_ret (W.vret hx hb hr (fun t ht hW => ⟨⟨fun v9 hv9 => by cases hv9; exact (⟨he, rfl, c52, by omega, by omega, by rw [ht]; exact hI.1⟩), fun x9 hx9 => (by cases hx9)⟩, hI.2.F ht⟩) hI.2.2.2 d_Va_write_65)
      · rcases hpost.2 _ rfl with ⟨hex, c53, hI1⟩
        have hI : sI (dC, dI) vcl cI cJ (gsC a he dp co li op wd tl lc sf lf) A s.heap H1 locs1 := ⟨by rw [← ht]; exact hI1, hS⟩
        refine tz_widen (k := 1) (n := 6) (Nat.le_of_ble_eq_true rfl) (Nat.le_of_ble_eq_true rfl) ?_
        subst hZ
        exact tz_leave (tx_noH B (hts _ mw_619) _) (fun t9 ht9 hW9 => ⟨⟨fun v9 hv9 => (by cases hv9), fun x9 hx9 => by cases hx9; exact (Or.inr (⟨ta_exm hex ht ht9 hWt hW9, c53, by omega, by omega, by rw [ht9]; exact hI.1⟩))⟩, hI.2.F ht9⟩) hI.2.2.2 hlocks
abbrev q_Li_clear (dC : Nat → ClassId) (dI : Nat → Nat → Nat) (cI cJ : ClassId) (a : Nat → Nat) (he dp co li op wd tl lc : Int) (sf lf : Nat → Int32) : Outcome → State → Prop := fun o t => (∀ v, o = .returned v → ((∃ (tl_ : Int), v = none ∧ okC he dp co li op wd tl_ lc sf lf ∧ tl_ ≤ 0 ∧ sh_I (dC, dI) vcl cI cJ (gsC a he dp co li op wd tl_ lc sf lf) t.heap))) ∧ (∀ x, o = .threw x → (False))
def rm_Li_clear : Room := { frames := 0, cells := 0, slots := 0, locals := 0 }
set_option maxHeartbeats 4000000 in
set_option maxRecDepth 100000 in
theorem c_Li_clear (l : Launch) (hfl : l.flags = pinnedFlags ++ [noTraceFlag]) (dC : Nat → ClassId) (dI : Nat → Nat → Nat) (cI cJ : ClassId) (a : Nat → Nat) (sz : Nat) (he dp co li op wd tl lc : Int) (sf lf : Nat → Int32) (hok : okC he dp co li op wd tl lc sf lf) : tz_Met l ⟨"StoryMachine$Line", "clear", "()V"⟩ tw_tbl rm_Li_clear (tzP (dC, dI) vcl cI cJ (gsC a he dp co li op wd tl lc sf lf) (adC a) [.ref (a 2)] sz) (tq_Q (q_Li_clear dC dI cI cJ a he dp co li op wd tl lc sf lf) (ga (adC a) sz)) 0 0 0 0 (ga (adC a) sz) := by
  refine tz_ofW (cc := prog_6_method_2_code) (maxL := 1) (ret := none) (by decide) (tx_isM mw_469) ?_
  intro p e s m args below meth c s₁ B hml hv
  obtain ⟨rfl, hsz, hI0, hK, hst0⟩ := hv
  have hx := B.exec
  have hb := B.bytes
  have hr := B.returns
  have hts := atoms_spec (ws := tw_tbl) B.pre
  have hown : s.vm.findClass "StoryMachine$Line" = some m.cls := findClass_of_methodNamed B.named
  have hlocks := B.notSynchronized
  subst hsz
  have hst := fun (H : Heap) (locs : List Loc) (hS : va_S (ga (adC a) s.heap.size) s.heap H locs) (U : State) (hU : U.heap = H) (hW : s.WarmedH U.vm) => zS_all adC_map hI0 hst0 hS hU hW
  have hAC : ∀ q ∈ adC a, ga (adC a) s.heap.size q := fun q h => Or.inl h
  have hA0 : ∀ q, s.heap.size ≤ q → ga (adC a) s.heap.size q := fun q h => Or.inr h
  have hI : sI (dC, dI) vcl cI cJ (gsC a he dp co li op wd tl lc sf lf) (ga (adC a) s.heap.size) s.heap s.heap [] := ⟨hI0, va_S.rf⟩
  clear hI0 hst0
  have hl := lv_entry ([.ref (a 2)]) (n := 1) (Nat.le_of_ble_eq_true rfl)
  rw [lg_entry_eq]
  generalize (lg_sl ([.ref (a 2)]) ++ List.replicate (1 - (lg_sl ([.ref (a 2)])).length) Slot.unset).toArray = ls at hl ⊢
  have hl : lv_has ls 1 [(0, .ref (a 2))] := hl
  generalize hZ : tz_MQ below (tq_Q (q_Li_clear dC dI cI cJ a he dp co li op wd tl lc sf lf) (ga (adC a) s.heap.size)) ([.ref (a 2)] : List Value).toArray s 0 0 0 0 (ga (adC a) s.heap.size) = Z
  obtain ⟨A, hAe⟩ : ∃ A, A = ga (adC a) s.heap.size := ⟨_, rfl⟩
  rw [← hAe] at hst hAC hA0 hI hZ
  refine sv_start hI (fun H locs hI => ?_)
  obtain ⟨⟨o1, o2⟩, ⟨o3, o4⟩, ⟨o5, o6⟩, ⟨o7, o8⟩, ⟨o9, o10⟩, ⟨o11, o12⟩, ⟨o13, o14⟩, ⟨o15, o16⟩, o17, -⟩ := id hok
  refine lv_aload_n hx hb d_Li_clear_0 rfl (lv_at hl 0 rfl) ?_
  refine sn_iconst hx hb d_Li_clear_1 (by decide) (fun z18 hz18 => ?_)
  refine sv_put (C := "StoryMachine$Line") (T := T_Li) (N := 5) (ty := .int) hx hb hts in_Li t_Li tk_Li nm_Li hown hK (sh_in adC_map hAC) hI 2 kC_2 rfl 1 (by decide) (hts _ mw_55) rfl (by decide +kernel) rfl rfl (Nat.le_of_ble_eq_true rfl) (Int.le_refl _) (Int.le_refl _) pC_2_1 d_Li_clear_2 (fun H locs hI => ?_)
  refine lv_aload_n hx hb d_Li_clear_5 rfl (lv_at hl 0 rfl) ?_
  refine sn_iconst hx hb d_Li_clear_6 (by decide) (fun z19 hz19 => ?_)
  refine sv_put (C := "StoryMachine$Line") (T := T_Li) (N := 5) (ty := .boolean) hx hb hts in_Li t_Li tk_Li nm_Li hown hK (sh_in adC_map hAC) hI 2 kC_2 rfl 4 (by decide) (hts _ mw_61) rfl (by decide +kernel) (sn_bool (by omega) (by omega)).1 (sn_bool (by omega) (by omega)).2 (Nat.le_of_ble_eq_true rfl) (by omega) (by omega) pC_2_4 d_Li_clear_7 (fun H locs hI => ?_)
  have ho20 : okC he dp co li op wd z18.toInt lc sf lf := ⟨hok.1, hok.2.1, hok.2.2.1, hok.2.2.2.1, hok.2.2.2.2.1, hok.2.2.2.2.2.1, ⟨by omega, by omega⟩, hok.2.2.2.2.2.2.2.1, hok.2.2.2.2.2.2.2.2.1, hok.2.2.2.2.2.2.2.2.2⟩
  subst hZ
  exact tz_ret (W.vret hx hb hr (fun t ht hW => ⟨⟨fun v9 hv9 => by cases hv9; exact (⟨z18.toInt, rfl, ho20, by omega, by rw [ht]; exact hI.1⟩), fun x9 hx9 => (by cases hx9)⟩, hI.2.F ht⟩) hI.2.2.2 d_Li_clear_10)
abbrev q_Li_add (dC : Nat → ClassId) (dI : Nat → Nat → Nat) (cI cJ : ClassId) (a : Nat → Nat) (he dp co li op wd tl lc : Int) (sf lf : Nat → Int32) (x1 : Int32) : Outcome → State → Prop := fun o t => (∀ v, o = .returned v → ((∃ (tl_ : Int), v = none ∧ okC he dp co li op wd tl_ lc sf lf ∧ 1 ≤ tl_ ∧ sh_I (dC, dI) vcl cI cJ (gsC a he dp co li op wd tl_ lc sf lf) t.heap))) ∧ (∀ x, o = .threw x → (False))
def rm_Li_add : Room := { frames := 0, cells := 0, slots := 0, locals := 0 }
set_option maxHeartbeats 4000000 in
set_option maxRecDepth 100000 in
theorem c_Li_add (l : Launch) (hfl : l.flags = pinnedFlags ++ [noTraceFlag]) (dC : Nat → ClassId) (dI : Nat → Nat → Nat) (cI cJ : ClassId) (a : Nat → Nat) (sz : Nat) (he dp co li op wd tl lc : Int) (sf lf : Nat → Int32) (x1 : Int32) (hok : okC he dp co li op wd tl lc sf lf) : tz_Met l ⟨"StoryMachine$Line", "add", "(I)V"⟩ tw_tbl rm_Li_add (tzP (dC, dI) vcl cI cJ (gsC a he dp co li op wd tl lc sf lf) (adC a) [.ref (a 2), .int x1] sz) (tq_Q (q_Li_add dC dI cI cJ a he dp co li op wd tl lc sf lf x1) (ga (adC a) sz)) 0 0 0 0 (ga (adC a) sz) := by
  refine tz_ofW (cc := prog_6_method_3_code) (maxL := 2) (ret := none) (by decide) (tx_isM mw_480) ?_
  intro p e s m args below meth c s₁ B hml hv
  obtain ⟨rfl, hsz, hI0, hK, hst0⟩ := hv
  have hx := B.exec
  have hb := B.bytes
  have hr := B.returns
  have hts := atoms_spec (ws := tw_tbl) B.pre
  have hown : s.vm.findClass "StoryMachine$Line" = some m.cls := findClass_of_methodNamed B.named
  have hlocks := B.notSynchronized
  subst hsz
  have hst := fun (H : Heap) (locs : List Loc) (hS : va_S (ga (adC a) s.heap.size) s.heap H locs) (U : State) (hU : U.heap = H) (hW : s.WarmedH U.vm) => zS_all adC_map hI0 hst0 hS hU hW
  have hAC : ∀ q ∈ adC a, ga (adC a) s.heap.size q := fun q h => Or.inl h
  have hA0 : ∀ q, s.heap.size ≤ q → ga (adC a) s.heap.size q := fun q h => Or.inr h
  have hI : sI (dC, dI) vcl cI cJ (gsC a he dp co li op wd tl lc sf lf) (ga (adC a) s.heap.size) s.heap s.heap [] := ⟨hI0, va_S.rf⟩
  clear hI0 hst0
  have hl := lv_entry ([.ref (a 2), .int x1]) (n := 2) (Nat.le_of_ble_eq_true rfl)
  rw [lg_entry_eq]
  generalize (lg_sl ([.ref (a 2), .int x1]) ++ List.replicate (2 - (lg_sl ([.ref (a 2), .int x1])).length) Slot.unset).toArray = ls at hl ⊢
  have hl : lv_has ls 2 [(0, .ref (a 2)), (1, .int x1)] := hl
  generalize hZ : tz_MQ below (tq_Q (q_Li_add dC dI cI cJ a he dp co li op wd tl lc sf lf x1) (ga (adC a) s.heap.size)) ([.ref (a 2), .int x1] : List Value).toArray s 0 0 0 0 (ga (adC a) s.heap.size) = Z
  obtain ⟨A, hAe⟩ : ∃ A, A = ga (adC a) s.heap.size := ⟨_, rfl⟩
  rw [← hAe] at hst hAC hA0 hI hZ
  refine sv_start hI (fun H locs hI => ?_)
  obtain ⟨⟨o1, o2⟩, ⟨o3, o4⟩, ⟨o5, o6⟩, ⟨o7, o8⟩, ⟨o9, o10⟩, ⟨o11, o12⟩, ⟨o13, o14⟩, ⟨o15, o16⟩, o17, -⟩ := id hok
  have gx1 := sn_rng x1
  refine lv_aload_n hx hb d_Li_add_0 rfl (lv_at hl 0 rfl) ?_
  refine sv_gete (C := "StoryMachine$Line") (T := T_Li) (N := 5) hx hb hts in_Li hown hK hI 2 kC_2 rfl 1 (by decide) (hts _ mw_55) rfl d_Li_add_1 (fun z18 hz18 => ?_)
  refine sn_bipush hx hb d_Li_add_4 (by decide) (fun z19 hz19 => ?_)
  refine sn_icmp_ge (tgt := 29) hx hb d_Li_add_6 (by decide) (fun b20 => ?_) (fun b20 => ?_)
  · subst hZ
    exact tz_ret (W.vret hx hb hr (fun t ht hW => ⟨⟨fun v9 hv9 => by cases hv9; exact (⟨tl, rfl, hok, by omega, by rw [ht]; exact hI.1⟩), fun x9 hx9 => (by cases hx9)⟩, hI.2.F ht⟩) hI.2.2.2 d_Li_add_29)
  · refine lv_aload_n hx hb d_Li_add_9 rfl (lv_at hl 0 rfl) ?_
    refine sv_getr (C := "StoryMachine$Line") (T := T_Li) (N := 5) hx hb hts in_Li hown hK hI 2 kC_2 rfl 0 (by decide) (hts _ mw_54) rfl d_Li_add_10 ?_
    refine lv_aload_n hx hb d_Li_add_13 rfl (lv_at hl 0 rfl) ?_
    refine sv_gete (C := "StoryMachine$Line") (T := T_Li) (N := 5) hx hb hts in_Li hown hK hI 2 kC_2 rfl 1 (by decide) (hts _ mw_55) rfl d_Li_add_14 (fun z21 hz21 => ?_)
    refine lv_iload_n hx hb d_Li_add_17 rfl (lv_at hl 1 rfl) ?_
    refine sv_iastr hx hb hK (sh_in adC_map hAC) hI 7 kC_7 (by omega) (by omega) (by omega) (by omega) pC_7 d_Li_add_18 (fun H locs hI => ?_)
    refine lv_aload_n hx hb d_Li_add_19 rfl (lv_at hl 0 rfl) ?_
    refine lv_dup hx hb d_Li_add_20 rfl ?_
    refine sv_gete (C := "StoryMachine$Line") (T := T_Li) (N := 5) hx hb hts in_Li hown hK hI 2 kC_2 rfl 1 (by decide) (hts _ mw_55) rfl d_Li_add_21 (fun z22 hz22 => ?_)
    refine sn_iconst hx hb d_Li_add_24 (by decide) (fun z23 hz23 => ?_)
    refine sn_iadd hx hb d_Li_add_25 (by omega) (by omega) (fun z24 hz24 => ?_)
    refine sv_put (C := "StoryMachine$Line") (T := T_Li) (N := 5) (ty := .int) hx hb hts in_Li t_Li tk_Li nm_Li hown hK (sh_in adC_map hAC) hI 2 kC_2 rfl 1 (by decide) (hts _ mw_55) rfl (by decide +kernel) rfl rfl (Nat.le_of_ble_eq_true rfl) (Int.le_refl _) (Int.le_refl _) pC_2_1 d_Li_add_26 (fun H locs hI => ?_)
    have ho25 : okC he dp co li op wd z24.toInt lc sf lf := ⟨hok.1, hok.2.1, hok.2.2.1, hok.2.2.2.1, hok.2.2.2.2.1, hok.2.2.2.2.2.1, ⟨by omega, by omega⟩, hok.2.2.2.2.2.2.2.1, hok.2.2.2.2.2.2.2.2.1, hok.2.2.2.2.2.2.2.2.2⟩
    subst hZ
    exact tz_ret (W.vret hx hb hr (fun t ht hW => ⟨⟨fun v9 hv9 => by cases hv9; exact (⟨z24.toInt, rfl, ho25, by omega, by rw [ht]; exact hI.1⟩), fun x9 hx9 => (by cases hx9)⟩, hI.2.F ht⟩) hI.2.2.2 d_Li_add_29)
abbrev q_Li_finish (dC : Nat → ClassId) (dI : Nat → Nat → Nat) (cI cJ : ClassId) (a : Nat → Nat) (he dp co li op wd tl lc : Int) (sf lf : Nat → Int32) : Outcome → State → Prop := fun o t => (∀ v, o = .returned v → ((∃ (tl_ : Int), v = none ∧ okC he dp co li op wd tl_ lc sf lf ∧ tl_ ≤ 0 ∧ sh_I (dC, dI) vcl cI cJ (gsC a he dp co li op wd tl_ lc sf lf) t.heap))) ∧ (∀ x, o = .threw x → (False))
def rm_Li_finish : Room := { frames := 0, cells := 0, slots := 0, locals := 0 }
set_option maxHeartbeats 4000000 in
set_option maxRecDepth 100000 in
theorem c_Li_finish (l : Launch) (hfl : l.flags = pinnedFlags ++ [noTraceFlag]) (dC : Nat → ClassId) (dI : Nat → Nat → Nat) (cI cJ : ClassId) (a : Nat → Nat) (sz : Nat) (he dp co li op wd tl lc : Int) (sf lf : Nat → Int32) (hok : okC he dp co li op wd tl lc sf lf) : tz_Met l ⟨"StoryMachine$Line", "finish", "()V"⟩ tw_tbl rm_Li_finish (tzP (dC, dI) vcl cI cJ (gsC a he dp co li op wd tl lc sf lf) (adC a) [.ref (a 2)] sz) (tq_Q (q_Li_finish dC dI cI cJ a he dp co li op wd tl lc sf lf) (ga (adC a) sz)) 0 0 0 0 (ga (adC a) sz) := by
  refine tz_ofW (cc := prog_6_method_4_code) (maxL := 4) (ret := none) (by decide) (tx_isM mw_333) ?_
  intro p e s m args below meth c s₁ B hml hv
  obtain ⟨rfl, hsz, hI0, hK, hst0⟩ := hv
  have hx := B.exec
  have hb := B.bytes
  have hr := B.returns
  have hts := atoms_spec (ws := tw_tbl) B.pre
  have hown : s.vm.findClass "StoryMachine$Line" = some m.cls := findClass_of_methodNamed B.named
  have hlocks := B.notSynchronized
  subst hsz
  have hst := fun (H : Heap) (locs : List Loc) (hS : va_S (ga (adC a) s.heap.size) s.heap H locs) (U : State) (hU : U.heap = H) (hW : s.WarmedH U.vm) => zS_all adC_map hI0 hst0 hS hU hW
  have hAC : ∀ q ∈ adC a, ga (adC a) s.heap.size q := fun q h => Or.inl h
  have hA0 : ∀ q, s.heap.size ≤ q → ga (adC a) s.heap.size q := fun q h => Or.inr h
  have hI : sI (dC, dI) vcl cI cJ (gsC a he dp co li op wd tl lc sf lf) (ga (adC a) s.heap.size) s.heap s.heap [] := ⟨hI0, va_S.rf⟩
  clear hI0 hst0
  have hl := lv_entry ([.ref (a 2)]) (n := 4) (Nat.le_of_ble_eq_true rfl)
  rw [lg_entry_eq]
  generalize (lg_sl ([.ref (a 2)]) ++ List.replicate (4 - (lg_sl ([.ref (a 2)])).length) Slot.unset).toArray = ls at hl ⊢
  have hl : lv_has ls 4 [(0, .ref (a 2))] := hl
  generalize hZ : tz_MQ below (tq_Q (q_Li_finish dC dI cI cJ a he dp co li op wd tl lc sf lf) (ga (adC a) s.heap.size)) ([.ref (a 2)] : List Value).toArray s 0 0 0 0 (ga (adC a) s.heap.size) = Z
  obtain ⟨A, hAe⟩ : ∃ A, A = ga (adC a) s.heap.size := ⟨_, rfl⟩
  rw [← hAe] at hst hAC hA0 hI hZ
  refine sv_start hI (fun H locs hI => ?_)
  obtain ⟨⟨o1, o2⟩, ⟨o3, o4⟩, ⟨o5, o6⟩, ⟨o7, o8⟩, ⟨o9, o10⟩, ⟨o11, o12⟩, ⟨o13, o14⟩, ⟨o15, o16⟩, o17, -⟩ := id hok
  have j2 : ∀ (n : Nat) (H : Heap) (locs : List Loc) (ls : Array Slot) (v2_1 : Int32), sI (dC, dI) vcl cI cJ (gsC a he dp co li op wd tl lc sf lf) A s.heap H locs → okC he dp co li op wd tl lc sf lf → 0 ≤ v2_1.toInt → v2_1.toInt ≤ 24 → lv_has ls 4 [(0, .ref (a 2)), (1, .int v2_1)] → 24 - v2_1.toInt < (n : Int) → W p l e (headSpec tw_tbl rm_Li_finish).room s m ([.ref (a 2)] : List Value).toArray below meth c H locs 0 0 Z (F0 m 2 ls []) := by
    intro n
    induction n with
    | zero => intro H locs ls v2_1 hI hok g2_0 g2_1 hl hme; exfalso; obtain ⟨⟨o18, o19⟩, ⟨o20, o21⟩, ⟨o22, o23⟩, ⟨o24, o25⟩, ⟨o26, o27⟩, ⟨o28, o29⟩, ⟨o30, o31⟩, ⟨o32, o33⟩, o34, -⟩ := id hok; omega
    | succ n ih =>
      intro H locs ls v2_1 hI hok g2_0 g2_1 hl hme
      obtain ⟨⟨o35, o36⟩, ⟨o37, o38⟩, ⟨o39, o40⟩, ⟨o41, o42⟩, ⟨o43, o44⟩, ⟨o45, o46⟩, ⟨o47, o48⟩, ⟨o49, o50⟩, o51, -⟩ := id hok
      have j33 : ∀ (H : Heap) (locs : List Loc) (ls : Array Slot) (v33_2 : Int32), sI (dC, dI) vcl cI cJ (gsC a he dp co li op wd tl lc sf lf) A s.heap H locs → okC he dp co li op wd tl lc sf lf → (-2147483648) ≤ v33_2.toInt → v33_2.toInt ≤ 2147483647 → 1 ≤ tl → v2_1.toInt ≤ 23 → lv_has ls 4 [(0, .ref (a 2)), (1, .int v2_1), (2, .int v33_2)] → W p l e (headSpec tw_tbl rm_Li_finish).room s m ([.ref (a 2)] : List Value).toArray below meth c H locs 0 0 Z (F0 m 33 ls []) := by
        intro H locs ls v33_2 hI hok g33_0 g33_1 g33_2 g33_3 hl
        obtain ⟨⟨o52, o53⟩, ⟨o54, o55⟩, ⟨o56, o57⟩, ⟨o58, o59⟩, ⟨o60, o61⟩, ⟨o62, o63⟩, ⟨o64, o65⟩, ⟨o66, o67⟩, o68, -⟩ := id hok
        refine sn_iconst hx hb d_Li_finish_33 (by decide) (fun z69 hz69 => ?_)
        refine lv_istore_n (lv' := [(3, .int z69), (0, .ref (a 2)), (1, .int v2_1), (2, .int v33_2)]) hx hb d_Li_finish_34 rfl hl (by decide) rfl (fun ls hl => ?_)
        refine lv_aload_n hx hb d_Li_finish_35 rfl (lv_at hl 1 rfl) ?_
        refine sv_getr (C := "StoryMachine$Line") (T := T_Li) (N := 5) hx hb hts in_Li hown hK hI 2 kC_2 rfl 2 (by decide) (hts _ mw_57) rfl d_Li_finish_36 ?_
        refine lv_iload_n hx hb d_Li_finish_39 rfl (lv_at hl 2 rfl) ?_
        refine lv_iload_n hx hb d_Li_finish_40 rfl (lv_at hl 0 rfl) ?_
        refine sn_if_eq (tgt := 54) hx hb d_Li_finish_41 (by decide) (fun b70 => ?_) (fun b70 => ?_)
        · refine lv_iload_n hx hb d_Li_finish_54 rfl (lv_at hl 3 rfl) ?_
          refine sv_iastr hx hb hK (sh_in adC_map hAC) hI 8 kC_8 (by omega) (by omega) (by omega) (by omega) pC_8 d_Li_finish_55 (fun H locs hI => ?_)
          refine sn_iinc (k := 2) hx hb d_Li_finish_56 hl rfl (by decide) (by decide) (by omega) (by omega) (fun ls z71 hz71 hl => ?_)
          have hl : lv_has ls 4 [(1, .int z71), (3, .int z69), (0, .ref (a 2)), (2, .int v33_2)] := hl
          refine lv_goto (tgt := 2) hx hb d_Li_finish_59 (by decide) ?_
          exact ih _ _ _ z71 hI hok (by omega) (by omega) (lv_sub hl [2, 0] rfl) (by omega)
        · omega
      refine lv_iload_n hx hb d_Li_finish_2 rfl (lv_at hl 1 rfl) ?_
      refine lv_aload_n hx hb d_Li_finish_3 rfl (lv_at hl 0 rfl) ?_
      refine sv_gete (C := "StoryMachine$Line") (T := T_Li) (N := 5) hx hb hts in_Li hown hK hI 2 kC_2 rfl 1 (by decide) (hts _ mw_55) rfl d_Li_finish_4 (fun z72 hz72 => ?_)
      refine sn_icmp_ge (tgt := 62) hx hb d_Li_finish_7 (by decide) (fun b73 => ?_) (fun b73 => ?_)
      · refine lv_aload_n hx hb d_Li_finish_62 rfl (lv_at hl 0 rfl) ?_
        refine lv_aload_n hx hb d_Li_finish_63 rfl (lv_at hl 0 rfl) ?_
        refine sv_gete (C := "StoryMachine$Line") (T := T_Li) (N := 5) hx hb hts in_Li hown hK hI 2 kC_2 rfl 1 (by decide) (hts _ mw_55) rfl d_Li_finish_64 (fun z74 hz74 => ?_)
        refine sv_put (C := "StoryMachine$Line") (T := T_Li) (N := 5) (ty := .int) hx hb hts in_Li t_Li tk_Li nm_Li hown hK (sh_in adC_map hAC) hI 2 kC_2 rfl 3 (by decide) (hts _ mw_59) rfl (by decide +kernel) rfl rfl (Nat.le_of_ble_eq_true rfl) (by omega) (by omega) pC_2_3 d_Li_finish_67 (fun H locs hI => ?_)
        refine lv_aload_n hx hb d_Li_finish_70 rfl (lv_at hl 0 rfl) ?_
        refine sn_iconst hx hb d_Li_finish_71 (by decide) (fun z75 hz75 => ?_)
        refine sv_put (C := "StoryMachine$Line") (T := T_Li) (N := 5) (ty := .int) hx hb hts in_Li t_Li tk_Li nm_Li hown hK (sh_in adC_map hAC) hI 2 kC_2 rfl 1 (by decide) (hts _ mw_55) rfl (by decide +kernel) rfl rfl (Nat.le_of_ble_eq_true rfl) (Int.le_refl _) (Int.le_refl _) pC_2_1 d_Li_finish_72 (fun H locs hI => ?_)
        refine lv_aload_n hx hb d_Li_finish_75 rfl (lv_at hl 0 rfl) ?_
        refine sn_iconst hx hb d_Li_finish_76 (by decide) (fun z76 hz76 => ?_)
        refine sv_put (C := "StoryMachine$Line") (T := T_Li) (N := 5) (ty := .boolean) hx hb hts in_Li t_Li tk_Li nm_Li hown hK (sh_in adC_map hAC) hI 2 kC_2 rfl 4 (by decide) (hts _ mw_61) rfl (by decide +kernel) (sn_bool (by omega) (by omega)).1 (sn_bool (by omega) (by omega)).2 (Nat.le_of_ble_eq_true rfl) (by omega) (by omega) pC_2_4 d_Li_finish_77 (fun H locs hI => ?_)
        have ho77 : okC he dp co li op wd z75.toInt lc sf lf := ⟨hok.1, hok.2.1, hok.2.2.1, hok.2.2.2.1, hok.2.2.2.2.1, hok.2.2.2.2.2.1, ⟨by omega, by omega⟩, hok.2.2.2.2.2.2.2.1, hok.2.2.2.2.2.2.2.2.1, hok.2.2.2.2.2.2.2.2.2⟩
        subst hZ
        exact tz_ret (W.vret hx hb hr (fun t ht hW => ⟨⟨fun v9 hv9 => by cases hv9; exact (⟨z75.toInt, rfl, ho77, by omega, by rw [ht]; exact hI.1⟩), fun x9 hx9 => (by cases hx9)⟩, hI.2.F ht⟩) hI.2.2.2 d_Li_finish_80)
      · refine lv_aload_n hx hb d_Li_finish_10 rfl (lv_at hl 0 rfl) ?_
        refine sv_getr (C := "StoryMachine$Line") (T := T_Li) (N := 5) hx hb hts in_Li hown hK hI 2 kC_2 rfl 0 (by decide) (hts _ mw_54) rfl d_Li_finish_11 ?_
        refine lv_iload_n hx hb d_Li_finish_14 rfl (lv_at hl 1 rfl) ?_
        refine sv_ialdr hx hb hK hI 7 kC_7 (by omega) (by omega) d_Li_finish_15 (fun z78 hz78a hz78b => ?_)
        refine lv_istore_n (lv' := [(2, .int z78), (0, .ref (a 2)), (1, .int v2_1)]) hx hb d_Li_finish_16 rfl hl (by decide) rfl (fun ls hl => ?_)
        refine lv_iload_n hx hb d_Li_finish_17 rfl (lv_at hl 0 rfl) ?_
        refine sn_bipush hx hb d_Li_finish_18 (by decide) (fun z79 hz79 => ?_)
        refine sn_icmp_lt (tgt := 33) hx hb d_Li_finish_20 (by decide) (fun b80 => ?_) (fun b80 => ?_)
        · exact j33 _ _ _ z78 hI hok (by omega) (by omega) (by omega) (by omega) (lv_sub hl [1, 2, 0] rfl)
        · refine lv_iload_n hx hb d_Li_finish_23 rfl (lv_at hl 0 rfl) ?_
          refine sn_bipush hx hb d_Li_finish_24 (by decide) (fun z81 hz81 => ?_)
          refine sn_icmp_gt (tgt := 33) hx hb d_Li_finish_26 (by decide) (fun b82 => ?_) (fun b82 => ?_)
          · exact j33 _ _ _ z78 hI hok (by omega) (by omega) (by omega) (by omega) (lv_sub hl [1, 2, 0] rfl)
          · refine sn_iconst hx hb d_Li_finish_29 (by decide) (fun z83 hz83 => ?_)
            refine lv_goto (tgt := 34) hx hb d_Li_finish_30 (by decide) ?_
            refine lv_istore_n (lv' := [(3, .int z83), (2, .int z78), (0, .ref (a 2)), (1, .int v2_1)]) hx hb d_Li_finish_34 rfl hl (by decide) rfl (fun ls hl => ?_)
            refine lv_aload_n hx hb d_Li_finish_35 rfl (lv_at hl 2 rfl) ?_
            refine sv_getr (C := "StoryMachine$Line") (T := T_Li) (N := 5) hx hb hts in_Li hown hK hI 2 kC_2 rfl 2 (by decide) (hts _ mw_57) rfl d_Li_finish_36 ?_
            refine lv_iload_n hx hb d_Li_finish_39 rfl (lv_at hl 3 rfl) ?_
            refine lv_iload_n hx hb d_Li_finish_40 rfl (lv_at hl 0 rfl) ?_
            refine sn_if_eq (tgt := 54) hx hb d_Li_finish_41 (by decide) (fun b84 => ?_) (fun b84 => ?_)
            · omega
            · refine lv_iload_n hx hb d_Li_finish_44 rfl (lv_at hl 1 rfl) ?_
              refine sn_bipush hx hb d_Li_finish_45 (by decide) (fun z85 hz85 => ?_)
              refine sn_isub hx hb d_Li_finish_47 (by omega) (by omega) (fun z86 hz86 => ?_)
              refine sn_bipush hx hb d_Li_finish_48 (by decide) (fun z87 hz87 => ?_)
              refine sn_iadd hx hb d_Li_finish_50 (by omega) (by omega) (fun z88 hz88 => ?_)
              refine lv_goto (tgt := 55) hx hb d_Li_finish_51 (by decide) ?_
              refine sv_iastr hx hb hK (sh_in adC_map hAC) hI 8 kC_8 (by omega) (by omega) (by omega) (by omega) pC_8 d_Li_finish_55 (fun H locs hI => ?_)
              refine sn_iinc (k := 3) hx hb d_Li_finish_56 hl rfl (by decide) (by decide) (by omega) (by omega) (fun ls z89 hz89 hl => ?_)
              have hl : lv_has ls 4 [(1, .int z89), (3, .int z83), (2, .int z78), (0, .ref (a 2))] := hl
              refine lv_goto (tgt := 2) hx hb d_Li_finish_59 (by decide) ?_
              exact ih _ _ _ z89 hI hok (by omega) (by omega) (lv_sub hl [3, 0] rfl) (by omega)
  refine sn_iconst hx hb d_Li_finish_0 (by decide) (fun z90 hz90 => ?_)
  refine lv_istore_n (lv' := [(1, .int z90), (0, .ref (a 2))]) hx hb d_Li_finish_1 rfl hl (by decide) rfl (fun ls hl => ?_)
  exact j2 25 _ _ _ z90 hI hok (by omega) (by omega) (lv_sub hl [1, 0] rfl) (by omega)
abbrev q_Pr_put (dC : Nat → ClassId) (dI : Nat → Nat → Nat) (cI cJ : ClassId) (a : Nat → Nat) (he dp co li op wd tl lc : Int) (sf lf : Nat → Int32) (x1 : Int32) : Outcome → State → Prop := fun o t => (∀ v, o = .returned v → ((v = none ∧ okC he dp co li op wd tl lc sf lf ∧ sh_I (dC, dI) vcl cI cJ (gsC a he dp co li op wd tl lc sf lf) t.heap))) ∧ (∀ x, o = .threw x → (False))
def rm_Pr_put : Room := { frames := 0, cells := 0, slots := 0, locals := 0 }
set_option maxHeartbeats 4000000 in
set_option maxRecDepth 100000 in
theorem c_Pr_put (l : Launch) (hfl : l.flags = pinnedFlags ++ [noTraceFlag]) (dC : Nat → ClassId) (dI : Nat → Nat → Nat) (cI cJ : ClassId) (a : Nat → Nat) (sz : Nat) (he dp co li op wd tl lc : Int) (sf lf : Nat → Int32) (x1 : Int32) (hok : okC he dp co li op wd tl lc sf lf) : tz_Met l ⟨"StoryMachine$Printer", "put", "(I)V"⟩ tw_tbl rm_Pr_put (tzP (dC, dI) vcl cI cJ (gsC a he dp co li op wd tl lc sf lf) (adC a) [.ref (a 4), .int x1] sz) (tq_Q (q_Pr_put dC dI cI cJ a he dp co li op wd tl lc sf lf x1) (ga (adC a) sz)) 0 0 0 0 (ga (adC a) sz) := by
  refine tz_ofW (cc := prog_8_method_2_code) (maxL := 2) (ret := none) (by decide) (tx_isM mw_653) ?_
  intro p e s m args below meth c s₁ B hml hv
  obtain ⟨rfl, hsz, hI0, hK, hst0⟩ := hv
  have hx := B.exec
  have hb := B.bytes
  have hr := B.returns
  have hts := atoms_spec (ws := tw_tbl) B.pre
  have hown : s.vm.findClass "StoryMachine$Printer" = some m.cls := findClass_of_methodNamed B.named
  have hlocks := B.notSynchronized
  subst hsz
  have hst := fun (H : Heap) (locs : List Loc) (hS : va_S (ga (adC a) s.heap.size) s.heap H locs) (U : State) (hU : U.heap = H) (hW : s.WarmedH U.vm) => zS_all adC_map hI0 hst0 hS hU hW
  have hAC : ∀ q ∈ adC a, ga (adC a) s.heap.size q := fun q h => Or.inl h
  have hA0 : ∀ q, s.heap.size ≤ q → ga (adC a) s.heap.size q := fun q h => Or.inr h
  have hI : sI (dC, dI) vcl cI cJ (gsC a he dp co li op wd tl lc sf lf) (ga (adC a) s.heap.size) s.heap s.heap [] := ⟨hI0, va_S.rf⟩
  clear hI0 hst0
  have hl := lv_entry ([.ref (a 4), .int x1]) (n := 2) (Nat.le_of_ble_eq_true rfl)
  rw [lg_entry_eq]
  generalize (lg_sl ([.ref (a 4), .int x1]) ++ List.replicate (2 - (lg_sl ([.ref (a 4), .int x1])).length) Slot.unset).toArray = ls at hl ⊢
  have hl : lv_has ls 2 [(0, .ref (a 4)), (1, .int x1)] := hl
  generalize hZ : tz_MQ below (tq_Q (q_Pr_put dC dI cI cJ a he dp co li op wd tl lc sf lf x1) (ga (adC a) s.heap.size)) ([.ref (a 4), .int x1] : List Value).toArray s 0 0 0 0 (ga (adC a) s.heap.size) = Z
  obtain ⟨A, hAe⟩ : ∃ A, A = ga (adC a) s.heap.size := ⟨_, rfl⟩
  rw [← hAe] at hst hAC hA0 hI hZ
  refine sv_start hI (fun H locs hI => ?_)
  obtain ⟨⟨o1, o2⟩, ⟨o3, o4⟩, ⟨o5, o6⟩, ⟨o7, o8⟩, ⟨o9, o10⟩, ⟨o11, o12⟩, ⟨o13, o14⟩, ⟨o15, o16⟩, o17, -⟩ := id hok
  have gx1 := sn_rng x1
  refine lv_aload_n hx hb d_Pr_put_0 rfl (lv_at hl 0 rfl) ?_
  refine sv_getr (C := "StoryMachine$Printer") (T := T_Pr) (N := 5) hx hb hts in_Pr hown hK hI 4 kC_4 rfl 1 (by decide) (hts _ mw_115) rfl d_Pr_put_1 ?_
  refine lv_aload_n hx hb d_Pr_put_4 rfl (lv_at hl 0 rfl) ?_
  refine sv_get (C := "StoryMachine$Printer") (T := T_Pr) (N := 5) hx hb hts in_Pr hown hK hI 4 kC_4 rfl 2 (by decide) (hts _ mw_116) rfl d_Pr_put_5 (fun z18 hz18a hz18b => ?_)
  refine sn_bipush hx hb d_Pr_put_8 (by decide) (fun z19 hz19 => ?_)
  refine sn_iand (k := 6) (M := 63) hx hb d_Pr_put_10 (by decide) (by decide) (by omega) (fun z20 hz20a hz20b hz20c => ?_)
  clear hz20c
  refine lv_iload_n hx hb d_Pr_put_11 rfl (lv_at hl 1 rfl) ?_
  refine sv_iastr hx hb hK (sh_in adC_map hAC) hI 15 kC_15 (by omega) (by omega) (by omega) (by omega) pC_15 d_Pr_put_12 (fun H locs hI => ?_)
  refine lv_aload_n hx hb d_Pr_put_13 rfl (lv_at hl 0 rfl) ?_
  refine lv_dup hx hb d_Pr_put_14 rfl ?_
  refine sv_get (C := "StoryMachine$Printer") (T := T_Pr) (N := 5) hx hb hts in_Pr hown hK hI 4 kC_4 rfl 2 (by decide) (hts _ mw_116) rfl d_Pr_put_15 (fun z21 hz21a hz21b => ?_)
  refine sn_iconst hx hb d_Pr_put_18 (by decide) (fun z22 hz22 => ?_)
  refine sn_iaddT hx hb d_Pr_put_19 (fun z23 hz23a hz23b => ?_)
  refine sv_put (C := "StoryMachine$Printer") (T := T_Pr) (N := 5) (ty := .int) hx hb hts in_Pr t_Pr tk_Pr nm_Pr hown hK (sh_in adC_map hAC) hI 4 kC_4 rfl 2 (by decide) (hts _ mw_116) rfl (by decide +kernel) rfl rfl (Nat.le_of_ble_eq_true rfl) (by omega) (by omega) pC_4_2 d_Pr_put_20 (fun H locs hI => ?_)
  subst hZ
  exact tz_ret (W.vret hx hb hr (fun t ht hW => ⟨⟨fun v9 hv9 => by cases hv9; exact (⟨rfl, hok, by rw [ht]; exact hI.1⟩), fun x9 hx9 => (by cases hx9)⟩, hI.2.F ht⟩) hI.2.2.2 d_Pr_put_23)
abbrev q_Pr_latest (dC : Nat → ClassId) (dI : Nat → Nat → Nat) (cI cJ : ClassId) (a : Nat → Nat) (he dp co li op wd tl lc : Int) (sf lf : Nat → Int32) (x1 : Int32) : Outcome → State → Prop := fun o t => (∀ v, o = .returned v → ((∃ (z : Int32), v = some (.int z) ∧ okC he dp co li op wd tl lc sf lf ∧ (-2147483648) ≤ z.toInt ∧ z.toInt ≤ 2147483647 ∧ sh_I (dC, dI) vcl cI cJ (gsC a he dp co li op wd tl lc sf lf) t.heap))) ∧ (∀ x, o = .threw x → (False))
def rm_Pr_latest : Room := { frames := 0, cells := 0, slots := 0, locals := 0 }
set_option maxHeartbeats 4000000 in
set_option maxRecDepth 100000 in
theorem c_Pr_latest (l : Launch) (hfl : l.flags = pinnedFlags ++ [noTraceFlag]) (dC : Nat → ClassId) (dI : Nat → Nat → Nat) (cI cJ : ClassId) (a : Nat → Nat) (sz : Nat) (he dp co li op wd tl lc : Int) (sf lf : Nat → Int32) (x1 : Int32) (hok : okC he dp co li op wd tl lc sf lf) : tz_Met l ⟨"StoryMachine$Printer", "latest", "(I)I"⟩ tw_tbl rm_Pr_latest (tzP (dC, dI) vcl cI cJ (gsC a he dp co li op wd tl lc sf lf) (adC a) [.ref (a 4), .int x1] sz) (tq_Q (q_Pr_latest dC dI cI cJ a he dp co li op wd tl lc sf lf x1) (ga (adC a) sz)) 0 0 0 0 (ga (adC a) sz) := by
  refine tz_ofW (cc := prog_8_method_3_code) (maxL := 2) (ret := (some .int)) (by decide) (tx_isM mw_1037) ?_
  intro p e s m args below meth c s₁ B hml hv
  obtain ⟨rfl, hsz, hI0, hK, hst0⟩ := hv
  have hx := B.exec
  have hb := B.bytes
  have hr := B.returns
  have hts := atoms_spec (ws := tw_tbl) B.pre
  have hown : s.vm.findClass "StoryMachine$Printer" = some m.cls := findClass_of_methodNamed B.named
  have hlocks := B.notSynchronized
  subst hsz
  have hst := fun (H : Heap) (locs : List Loc) (hS : va_S (ga (adC a) s.heap.size) s.heap H locs) (U : State) (hU : U.heap = H) (hW : s.WarmedH U.vm) => zS_all adC_map hI0 hst0 hS hU hW
  have hAC : ∀ q ∈ adC a, ga (adC a) s.heap.size q := fun q h => Or.inl h
  have hA0 : ∀ q, s.heap.size ≤ q → ga (adC a) s.heap.size q := fun q h => Or.inr h
  have hI : sI (dC, dI) vcl cI cJ (gsC a he dp co li op wd tl lc sf lf) (ga (adC a) s.heap.size) s.heap s.heap [] := ⟨hI0, va_S.rf⟩
  clear hI0 hst0
  have hl := lv_entry ([.ref (a 4), .int x1]) (n := 2) (Nat.le_of_ble_eq_true rfl)
  rw [lg_entry_eq]
  generalize (lg_sl ([.ref (a 4), .int x1]) ++ List.replicate (2 - (lg_sl ([.ref (a 4), .int x1])).length) Slot.unset).toArray = ls at hl ⊢
  have hl : lv_has ls 2 [(0, .ref (a 4)), (1, .int x1)] := hl
  generalize hZ : tz_MQ below (tq_Q (q_Pr_latest dC dI cI cJ a he dp co li op wd tl lc sf lf x1) (ga (adC a) s.heap.size)) ([.ref (a 4), .int x1] : List Value).toArray s 0 0 0 0 (ga (adC a) s.heap.size) = Z
  obtain ⟨A, hAe⟩ : ∃ A, A = ga (adC a) s.heap.size := ⟨_, rfl⟩
  rw [← hAe] at hst hAC hA0 hI hZ
  refine sv_start hI (fun H locs hI => ?_)
  obtain ⟨⟨o1, o2⟩, ⟨o3, o4⟩, ⟨o5, o6⟩, ⟨o7, o8⟩, ⟨o9, o10⟩, ⟨o11, o12⟩, ⟨o13, o14⟩, ⟨o15, o16⟩, o17, -⟩ := id hok
  have gx1 := sn_rng x1
  refine lv_aload_n hx hb d_Pr_latest_0 rfl (lv_at hl 0 rfl) ?_
  refine sv_getr (C := "StoryMachine$Printer") (T := T_Pr) (N := 5) hx hb hts in_Pr hown hK hI 4 kC_4 rfl 1 (by decide) (hts _ mw_115) rfl d_Pr_latest_1 ?_
  refine lv_aload_n hx hb d_Pr_latest_4 rfl (lv_at hl 0 rfl) ?_
  refine sv_get (C := "StoryMachine$Printer") (T := T_Pr) (N := 5) hx hb hts in_Pr hown hK hI 4 kC_4 rfl 2 (by decide) (hts _ mw_116) rfl d_Pr_latest_5 (fun z18 hz18a hz18b => ?_)
  refine sn_iconst hx hb d_Pr_latest_8 (by decide) (fun z19 hz19 => ?_)
  refine sn_isubT hx hb d_Pr_latest_9 (fun z20 hz20a hz20b => ?_)
  refine lv_iload_n hx hb d_Pr_latest_10 rfl (lv_at hl 1 rfl) ?_
  refine sn_isubT hx hb d_Pr_latest_11 (fun z21 hz21a hz21b => ?_)
  refine sn_bipush hx hb d_Pr_latest_12 (by decide) (fun z22 hz22 => ?_)
  refine sn_iand (k := 6) (M := 63) hx hb d_Pr_latest_14 (by decide) (by decide) (by omega) (fun z23 hz23a hz23b hz23c => ?_)
  clear hz23c
  refine sv_ialdr hx hb hK hI 15 kC_15 (by omega) (by omega) d_Pr_latest_15 (fun z24 hz24a hz24b => ?_)
  subst hZ
  exact tz_ret (W.iret (v := z24) hx hb hr (fun t ht hW => ⟨⟨fun v9 hv9 => by cases hv9; exact (⟨z24, rfl, hok, by omega, by omega, by rw [ht]; exact hI.1⟩), fun x9 hx9 => (by cases hx9)⟩, hI.2.F ht⟩) hI.2.2.2 d_Pr_latest_16)
abbrev q_Pr_putNumber (dC : Nat → ClassId) (dI : Nat → Nat → Nat) (cI cJ : ClassId) (a : Nat → Nat) (he dp co li op wd tl lc : Int) (sf lf : Nat → Int32) (x1 : Int32) : Outcome → State → Prop := fun o t => (∀ v, o = .returned v → ((v = none ∧ okC he dp co li op wd tl lc sf lf ∧ sh_I (dC, dI) vcl cI cJ (gsC a he dp co li op wd tl lc sf lf) t.heap))) ∧ (∀ x, o = .threw x → (False))
def rm_Pr_putNumber : Room := { frames := 1, cells := 0, slots := 0, locals := 60 }
set_option maxHeartbeats 4000000 in
set_option maxRecDepth 100000 in
theorem c_Pr_putNumber (l : Launch) (hfl : l.flags = pinnedFlags ++ [noTraceFlag]) (dC : Nat → ClassId) (dI : Nat → Nat → Nat) (cI cJ : ClassId) (a : Nat → Nat) (sz : Nat) (he dp co li op wd tl lc : Int) (sf lf : Nat → Int32) (x1 : Int32) (hok : okC he dp co li op wd tl lc sf lf) : tz_Met l ⟨"StoryMachine$Printer", "putNumber", "(I)V"⟩ tw_tbl rm_Pr_putNumber (tzP (dC, dI) vcl cI cJ (gsC a he dp co li op wd tl lc sf lf) (adC a) [.ref (a 4), .int x1] sz) (tq_Q (q_Pr_putNumber dC dI cI cJ a he dp co li op wd tl lc sf lf x1) (ga (adC a) sz)) 0 0 0 0 (ga (adC a) sz) := by
  refine tz_ofW (cc := prog_8_method_4_code) (maxL := 4) (ret := none) (by decide) (tx_isM mw_1002) ?_
  intro p e s m args below meth c s₁ B hml hv
  obtain ⟨rfl, hsz, hI0, hK, hst0⟩ := hv
  have hx := B.exec
  have hb := B.bytes
  have hr := B.returns
  have hts := atoms_spec (ws := tw_tbl) B.pre
  have hown : s.vm.findClass "StoryMachine$Printer" = some m.cls := findClass_of_methodNamed B.named
  have hlocks := B.notSynchronized
  subst hsz
  have hst := fun (H : Heap) (locs : List Loc) (hS : va_S (ga (adC a) s.heap.size) s.heap H locs) (U : State) (hU : U.heap = H) (hW : s.WarmedH U.vm) => zS_all adC_map hI0 hst0 hS hU hW
  have hAC : ∀ q ∈ adC a, ga (adC a) s.heap.size q := fun q h => Or.inl h
  have hA0 : ∀ q, s.heap.size ≤ q → ga (adC a) s.heap.size q := fun q h => Or.inr h
  have hI : sI (dC, dI) vcl cI cJ (gsC a he dp co li op wd tl lc sf lf) (ga (adC a) s.heap.size) s.heap s.heap [] := ⟨hI0, va_S.rf⟩
  clear hI0 hst0
  have hl := lv_entry ([.ref (a 4), .int x1]) (n := 4) (Nat.le_of_ble_eq_true rfl)
  rw [lg_entry_eq]
  generalize (lg_sl ([.ref (a 4), .int x1]) ++ List.replicate (4 - (lg_sl ([.ref (a 4), .int x1])).length) Slot.unset).toArray = ls at hl ⊢
  have hl : lv_has ls 4 [(0, .ref (a 4)), (1, .int x1)] := hl
  generalize hZ : tz_MQ below (tq_Q (q_Pr_putNumber dC dI cI cJ a he dp co li op wd tl lc sf lf x1) (ga (adC a) s.heap.size)) ([.ref (a 4), .int x1] : List Value).toArray s 0 0 0 0 (ga (adC a) s.heap.size) = Z
  obtain ⟨A, hAe⟩ : ∃ A, A = ga (adC a) s.heap.size := ⟨_, rfl⟩
  rw [← hAe] at hst hAC hA0 hI hZ
  refine sv_start hI (fun H locs hI => ?_)
  obtain ⟨⟨o1, o2⟩, ⟨o3, o4⟩, ⟨o5, o6⟩, ⟨o7, o8⟩, ⟨o9, o10⟩, ⟨o11, o12⟩, ⟨o13, o14⟩, ⟨o15, o16⟩, o17, -⟩ := id hok
  have gx1 := sn_rng x1
  have j19 : ∀ (n : Nat) (H : Heap) (locs : List Loc) (ls : Array Slot) (v19_2 v19_3 : Int32), sI (dC, dI) vcl cI cJ (gsC a he dp co li op wd tl lc sf lf) A s.heap H locs → okC he dp co li op wd tl lc sf lf → (-2147483648) ≤ v19_2.toInt → v19_2.toInt ≤ 2147483647 → 0 ≤ v19_3.toInt → v19_3.toInt ≤ 10000 → lv_has ls 4 [(0, .ref (a 4)), (1, .int x1), (2, .int v19_2), (3, .int v19_3)] → v19_3.toInt < (n : Int) → W p l e (headSpec tw_tbl rm_Pr_putNumber).room s m ([.ref (a 4), .int x1] : List Value).toArray below meth c H locs 0 0 Z (F0 m 19 ls []) := by
    intro n
    induction n with
    | zero => intro H locs ls v19_2 v19_3 hI hok g19_0 g19_1 g19_2 g19_3 hl hme; exfalso; obtain ⟨⟨o18, o19⟩, ⟨o20, o21⟩, ⟨o22, o23⟩, ⟨o24, o25⟩, ⟨o26, o27⟩, ⟨o28, o29⟩, ⟨o30, o31⟩, ⟨o32, o33⟩, o34, -⟩ := id hok; omega
    | succ n ih =>
      intro H locs ls v19_2 v19_3 hI hok g19_0 g19_1 g19_2 g19_3 hl hme
      obtain ⟨⟨o35, o36⟩, ⟨o37, o38⟩, ⟨o39, o40⟩, ⟨o41, o42⟩, ⟨o43, o44⟩, ⟨o45, o46⟩, ⟨o47, o48⟩, ⟨o49, o50⟩, o51, -⟩ := id hok
      have j46 : ∀ (H : Heap) (locs : List Loc) (ls : Array Slot), sI (dC, dI) vcl cI cJ (gsC a he dp co li op wd tl lc sf lf) A s.heap H locs → okC he dp co li op wd tl lc sf lf → 1 ≤ v19_3.toInt → lv_has ls 4 [(0, .ref (a 4)), (1, .int x1), (2, .int v19_2), (3, .int v19_3)] → W p l e (headSpec tw_tbl rm_Pr_putNumber).room s m ([.ref (a 4), .int x1] : List Value).toArray below meth c H locs 0 0 Z (F0 m 46 ls []) := by
        intro H locs ls hI hok g46_0 hl
        obtain ⟨⟨o52, o53⟩, ⟨o54, o55⟩, ⟨o56, o57⟩, ⟨o58, o59⟩, ⟨o60, o61⟩, ⟨o62, o63⟩, ⟨o64, o65⟩, ⟨o66, o67⟩, o68, -⟩ := id hok
        refine lv_iload_n hx hb d_Pr_putNumber_46 rfl (lv_at hl 3 rfl) ?_
        refine sn_bipush hx hb d_Pr_putNumber_47 (by decide) (fun z69 hz69 => ?_)
        refine sn_idiv (k := 10) hx hb d_Pr_putNumber_49 (by omega) (by omega) (by omega) (fun z70 hz70 => ?_)
        refine lv_istore_n (lv' := [(3, .int z70), (0, .ref (a 4)), (1, .int x1), (2, .int v19_2)]) hx hb d_Pr_putNumber_50 rfl hl (by decide) rfl (fun ls hl => ?_)
        refine lv_goto (tgt := 19) hx hb d_Pr_putNumber_51 (by decide) ?_
        exact ih _ _ _ v19_2 z70 hI hok (by omega) (by omega) (by omega) (by omega) (lv_sub hl [1, 2, 3, 0] rfl) (by omega)
      have j33 : ∀ (H : Heap) (locs : List Loc) (ls : Array Slot), sI (dC, dI) vcl cI cJ (gsC a he dp co li op wd tl lc sf lf) A s.heap H locs → okC he dp co li op wd tl lc sf lf → 1 ≤ v19_3.toInt → lv_has ls 4 [(0, .ref (a 4)), (1, .int x1), (2, .int v19_2), (3, .int v19_3)] → W p l e (headSpec tw_tbl rm_Pr_putNumber).room s m ([.ref (a 4), .int x1] : List Value).toArray below meth c H locs 0 0 Z (F0 m 33 ls []) := by
        intro H locs ls hI hok g33_0 hl
        obtain ⟨⟨o71, o72⟩, ⟨o73, o74⟩, ⟨o75, o76⟩, ⟨o77, o78⟩, ⟨o79, o80⟩, ⟨o81, o82⟩, ⟨o83, o84⟩, ⟨o85, o86⟩, o87, -⟩ := id hok
        refine lv_aload_n hx hb d_Pr_putNumber_33 rfl (lv_at hl 0 rfl) ?_
        refine sn_bipush hx hb d_Pr_putNumber_34 (by decide) (fun z88 hz88 => ?_)
        refine lv_iload_n hx hb d_Pr_putNumber_36 rfl (lv_at hl 2 rfl) ?_
        refine lv_iload_n hx hb d_Pr_putNumber_37 rfl (lv_at hl 3 rfl) ?_
        refine sn_idivT hx hb d_Pr_putNumber_38 (by omega) (fun z89 hz89a hz89b => ?_)
        refine sn_bipush hx hb d_Pr_putNumber_39 (by decide) (fun z90 hz90 => ?_)
        refine sn_iremT hx hb d_Pr_putNumber_41 (by omega) (fun z91 hz91a hz91b => ?_)
        refine sn_iaddT hx hb d_Pr_putNumber_42 (fun z92 hz92a hz92b => ?_)
        refine tz_call (A1 := ga (adC a) H.size) (tz_runV (C := "StoryMachine$Printer") (As := [.int z92]) (rest := []) ⟨hx, hb, hml, hown, hts⟩ (c_Pr_put l hfl dC dI cI cJ a H.size he dp co li op wd tl lc sf lf z92 hok) (tx_cb (n := 1) hts rfl rfl ⟨Nat.le_of_ble_eq_true rfl, Nat.le_of_ble_eq_true rfl⟩ (tx_code.of (hts _ mw_653)) (hts _ mw_5) (by decide +kernel) (hts _ mw_650)) (hts _ mw_651) (hts _ mw_652) ⟨tz_blind, sv_recv (q0 := 4) hts in_Pr hK hI kC_4 rfl, fun U hU hW => ⟨rfl, by rw [hU], by rw [hU]; exact hI.1, va_K.moved hW.alike hK, hst _ _ hI.2 U hU hW⟩⟩ rfl rfl hl.1 rfl (lv_room (Nat.le_of_ble_eq_true rfl)) d_Pr_putNumber_43 ⟨Nat.le_of_ble_eq_true rfl, Nat.le_of_ble_eq_true rfl⟩) hI.2 (fun q _ h => ga_sub hAC hA0 hI.2 q h) (ga_sub hAC hA0 hI.2) (fun v t H1 locs1 ht hWt hpost _ _ hS => ?_) (fun x t H1 locs1 ht hWt hpost _ _ hS => (hpost.2 x rfl).elim)
        rcases hpost.1 _ rfl with ⟨hv, c93, hI1⟩
        cases hv
        have hI : sI (dC, dI) vcl cI cJ (gsC a he dp co li op wd tl lc sf lf) A s.heap H1 locs1 := ⟨by rw [← ht]; exact hI1, hS⟩
        clear hpost hI1 hS ht hWt
        revert hI; generalize H1 = H; generalize locs1 = locs; intro hI
        exact j46 _ _ _  hI c93 (by omega) (lv_sub hl [0, 1, 2, 3] rfl)
      refine lv_iload_n hx hb d_Pr_putNumber_19 rfl (lv_at hl 3 rfl) ?_
      refine sn_if_le (tgt := 54) hx hb d_Pr_putNumber_20 (by decide) (fun b94 => ?_) (fun b94 => ?_)
      · subst hZ
        exact tz_ret (W.vret hx hb hr (fun t ht hW => ⟨⟨fun v9 hv9 => by cases hv9; exact (⟨rfl, hok, by rw [ht]; exact hI.1⟩), fun x9 hx9 => (by cases hx9)⟩, hI.2.F ht⟩) hI.2.2.2 d_Pr_putNumber_54)
      · refine lv_iload_n hx hb d_Pr_putNumber_23 rfl (lv_at hl 2 rfl) ?_
        refine lv_iload_n hx hb d_Pr_putNumber_24 rfl (lv_at hl 3 rfl) ?_
        refine sn_icmp_ge (tgt := 33) hx hb d_Pr_putNumber_25 (by decide) (fun b95 => ?_) (fun b95 => ?_)
        · exact j33 _ _ _  hI hok (by omega) (lv_sub hl [0, 1, 2, 3] rfl)
        · refine lv_iload_n hx hb d_Pr_putNumber_28 rfl (lv_at hl 3 rfl) ?_
          refine sn_iconst hx hb d_Pr_putNumber_29 (by decide) (fun z96 hz96 => ?_)
          refine sn_icmp_ne (tgt := 46) hx hb d_Pr_putNumber_30 (by decide) (fun b97 => ?_) (fun b97 => ?_)
          · exact j46 _ _ _  hI hok (by omega) (lv_sub hl [0, 1, 2, 3] rfl)
          · exact j33 _ _ _  hI hok (by omega) (lv_sub hl [0, 1, 2, 3] rfl)
  have j10 : ∀ (H : Heap) (locs : List Loc) (ls : Array Slot), sI (dC, dI) vcl cI cJ (gsC a he dp co li op wd tl lc sf lf) A s.heap H locs → okC he dp co li op wd tl lc sf lf → lv_has ls 4 [(0, .ref (a 4)), (1, .int x1)] → W p l e (headSpec tw_tbl rm_Pr_putNumber).room s m ([.ref (a 4), .int x1] : List Value).toArray below meth c H locs 0 0 Z (F0 m 10 ls []) := by
    intro H locs ls hI hok hl
    obtain ⟨⟨o98, o99⟩, ⟨o100, o101⟩, ⟨o102, o103⟩, ⟨o104, o105⟩, ⟨o106, o107⟩, ⟨o108, o109⟩, ⟨o110, o111⟩, ⟨o112, o113⟩, o114, -⟩ := id hok
    refine lv_iload_n hx hb d_Pr_putNumber_10 rfl (lv_at hl 1 rfl) ?_
    refine sj_abs hx hb (by rw [hml]; exact hl.1.symm) hown (hts _ mw_1003) (hts _ mw_1004) (hts _ mw_25) (hts _ mw_1005) (Nat.le_of_ble_eq_true rfl) (Nat.le_of_ble_eq_true rfl) (Nat.le_of_ble_eq_true rfl) (Nat.le_of_ble_eq_true rfl) d_Pr_putNumber_11 (fun z115 hz115a hz115b => ?_)
    refine lv_istore_n (lv' := [(2, .int z115), (0, .ref (a 4)), (1, .int x1)]) hx hb d_Pr_putNumber_14 rfl hl (by decide) rfl (fun ls hl => ?_)
    refine sn_sipush hx hb d_Pr_putNumber_15 (by decide) (fun z116 hz116 => ?_)
    refine lv_istore_n (lv' := [(3, .int z116), (2, .int z115), (0, .ref (a 4)), (1, .int x1)]) hx hb d_Pr_putNumber_18 rfl hl (by decide) rfl (fun ls hl => ?_)
    exact j19 10001 _ _ _ z115 z116 hI hok (by omega) (by omega) (by omega) (by omega) (lv_sub hl [2, 3, 1, 0] rfl) (by omega)
  refine lv_iload_n hx hb d_Pr_putNumber_0 rfl (lv_at hl 1 rfl) ?_
  refine sn_if_ge (tgt := 10) hx hb d_Pr_putNumber_1 (by decide) (fun b117 => ?_) (fun b117 => ?_)
  · exact j10 _ _ _  hI hok (lv_sub hl [0, 1] rfl)
  · refine lv_aload_n hx hb d_Pr_putNumber_4 rfl (lv_at hl 0 rfl) ?_
    refine sn_bipush hx hb d_Pr_putNumber_5 (by decide) (fun z118 hz118 => ?_)
    refine tz_call (A1 := ga (adC a) H.size) (tz_runV (C := "StoryMachine$Printer") (As := [.int z118]) (rest := []) ⟨hx, hb, hml, hown, hts⟩ (c_Pr_put l hfl dC dI cI cJ a H.size he dp co li op wd tl lc sf lf z118 hok) (tx_cb (n := 1) hts rfl rfl ⟨Nat.le_of_ble_eq_true rfl, Nat.le_of_ble_eq_true rfl⟩ (tx_code.of (hts _ mw_653)) (hts _ mw_5) (by decide +kernel) (hts _ mw_650)) (hts _ mw_651) (hts _ mw_652) ⟨tz_blind, sv_recv (q0 := 4) hts in_Pr hK hI kC_4 rfl, fun U hU hW => ⟨rfl, by rw [hU], by rw [hU]; exact hI.1, va_K.moved hW.alike hK, hst _ _ hI.2 U hU hW⟩⟩ rfl rfl hl.1 rfl (lv_room (Nat.le_of_ble_eq_true rfl)) d_Pr_putNumber_7 ⟨Nat.le_of_ble_eq_true rfl, Nat.le_of_ble_eq_true rfl⟩) hI.2 (fun q _ h => ga_sub hAC hA0 hI.2 q h) (ga_sub hAC hA0 hI.2) (fun v t H1 locs1 ht hWt hpost _ _ hS => ?_) (fun x t H1 locs1 ht hWt hpost _ _ hS => (hpost.2 x rfl).elim)
    rcases hpost.1 _ rfl with ⟨hv, c119, hI1⟩
    cases hv
    have hI : sI (dC, dI) vcl cI cJ (gsC a he dp co li op wd tl lc sf lf) A s.heap H1 locs1 := ⟨by rw [← ht]; exact hI1, hS⟩
    clear hpost hI1 hS ht hWt
    revert hI; generalize H1 = H; generalize locs1 = locs; intro hI
    exact j10 _ _ _  hI c119 (lv_sub hl [0, 1] rfl)
