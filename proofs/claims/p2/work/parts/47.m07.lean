abbrev q_Tr_setProperty (dC : Nat → ClassId) (dI : Nat → Nat → Nat) (cI cJ : ClassId) (a : Nat → Nat) (he dp co li op wd tl lc : Int) (sf lf : Nat → Int32) (x1 : Int32) (x2 : Int32) (x3 : Int32) : Outcome → State → Prop := fun o t => (∀ v, o = .returned v → ((v = none ∧ okC he dp co li op wd tl lc sf lf ∧ sh_I (dC, dI) vcl cI cJ (gsC a he dp co li op wd tl lc sf lf) t.heap))) ∧ (∀ x, o = .threw x → ((ta_Ex "java/lang/IllegalArgumentException" x t ∧ okC he dp co li op wd tl lc sf lf ∧ sh_I (dC, dI) vcl cI cJ (gsC a he dp co li op wd tl lc sf lf) t.heap)))
def rm_Tr_setProperty : Room := { frames := 9, cells := 1, slots := 6, locals := 176 }
set_option maxHeartbeats 4000000 in
set_option maxRecDepth 100000 in
theorem c_Tr_setProperty (l : Launch) (hfl : l.flags = pinnedFlags ++ [noTraceFlag]) (dC : Nat → ClassId) (dI : Nat → Nat → Nat) (cI cJ : ClassId) (a : Nat → Nat) (sz : Nat) (he dp co li op wd tl lc : Int) (sf lf : Nat → Int32) (x1 : Int32) (x2 : Int32) (x3 : Int32) (hok : okC he dp co li op wd tl lc sf lf) : tz_Met l ⟨"StoryMachine$Tree", "setProperty", "(III)V"⟩ tw_tbl rm_Tr_setProperty (tzP (dC, dI) vcl cI cJ (gsC a he dp co li op wd tl lc sf lf) (adC a) [.ref (a 17), .int x1, .int x2, .int x3] sz) (tq_Q (q_Tr_setProperty dC dI cI cJ a he dp co li op wd tl lc sf lf x1 x2 x3) (ga (adC a) sz)) 0 0 1 6 (ga (adC a) sz) := by
  refine tz_ofW (cc := prog_10_method_19_code) (maxL := 6) (ret := none) (by decide) (tx_isM mw_888) ?_
  intro p e s m args below meth c s₁ B hml hv
  obtain ⟨rfl, hsz, hI0, hK, hst0⟩ := hv
  have hx := B.exec
  have hb := B.bytes
  have hr := B.returns
  have hts := atoms_spec (ws := tw_tbl) B.pre
  have hown : s.vm.findClass "StoryMachine$Tree" = some m.cls := findClass_of_methodNamed B.named
  have hlocks := B.notSynchronized
  subst hsz
  have hst := fun (H : Heap) (locs : List Loc) (hS : va_S (ga (adC a) s.heap.size) s.heap H locs) (U : State) (hU : U.heap = H) (hW : s.WarmedH U.vm) => zS_all adC_map hI0 hst0 hS hU hW
  have hAC : ∀ q ∈ adC a, ga (adC a) s.heap.size q := fun q h => Or.inl h
  have hA0 : ∀ q, s.heap.size ≤ q → ga (adC a) s.heap.size q := fun q h => Or.inr h
  have hI : sI (dC, dI) vcl cI cJ (gsC a he dp co li op wd tl lc sf lf) (ga (adC a) s.heap.size) s.heap s.heap [] := ⟨hI0, va_S.rf⟩
  clear hI0 hst0
  have hl := lv_entry ([.ref (a 17), .int x1, .int x2, .int x3]) (n := 6) (Nat.le_of_ble_eq_true rfl)
  rw [lg_entry_eq]
  generalize (lg_sl ([.ref (a 17), .int x1, .int x2, .int x3]) ++ List.replicate (6 - (lg_sl ([.ref (a 17), .int x1, .int x2, .int x3])).length) Slot.unset).toArray = ls at hl ⊢
  have hl : lv_has ls 6 [(0, .ref (a 17)), (1, .int x1), (2, .int x2), (3, .int x3)] := hl
  generalize hZ : tz_MQ below (tq_Q (q_Tr_setProperty dC dI cI cJ a he dp co li op wd tl lc sf lf x1 x2 x3) (ga (adC a) s.heap.size)) ([.ref (a 17), .int x1, .int x2, .int x3] : List Value).toArray s 0 0 1 6 (ga (adC a) s.heap.size) = Z
  obtain ⟨A, hAe⟩ : ∃ A, A = ga (adC a) s.heap.size := ⟨_, rfl⟩
  rw [← hAe] at hst hAC hA0 hI hZ
  refine sv_start hI (fun H locs hI => ?_)
  obtain ⟨⟨o1, o2⟩, ⟨o3, o4⟩, ⟨o5, o6⟩, ⟨o7, o8⟩, ⟨o9, o10⟩, ⟨o11, o12⟩, ⟨o13, o14⟩, ⟨o15, o16⟩, o17, -⟩ := id hok
  have gx1 := sn_rng x1
  have gx2 := sn_rng x2
  have gx3 := sn_rng x3
  refine lv_aload_n hx hb d_Tr_setProperty_0 rfl (lv_at hl 0 rfl) ?_
  refine lv_iload_n hx hb d_Tr_setProperty_1 rfl (lv_at hl 1 rfl) ?_
  refine lv_iload_n hx hb d_Tr_setProperty_2 rfl (lv_at hl 2 rfl) ?_
  refine tz_call (A1 := ga (adC a) H.size) (tz_runV (C := "StoryMachine$Tree") (As := [.int x1, .int x2]) (rest := []) ⟨hx, hb, hml, hown, hts⟩ (c_Tr_propertyPlace l hfl dC dI cI cJ a H.size he dp co li op wd tl lc sf lf x1 x2 hok) (tx_cb (n := 2) hts rfl rfl ⟨Nat.le_of_ble_eq_true rfl, Nat.le_of_ble_eq_true rfl⟩ (tx_code.of (hts _ mw_827)) (hts _ mw_9) (by decide +kernel) (hts _ mw_824)) (hts _ mw_825) (hts _ mw_826) ⟨tz_blind, sv_recv (q0 := 17) hts in_Tr hK hI kC_17 rfl, fun U hU hW => ⟨rfl, by rw [hU], by rw [hU]; exact hI.1, va_K.moved hW.alike hK, hst _ _ hI.2 U hU hW⟩⟩ rfl rfl hl.1 rfl (lv_room (Nat.le_of_ble_eq_true rfl)) d_Tr_setProperty_3 ⟨Nat.le_of_ble_eq_true rfl, Nat.le_of_ble_eq_true rfl⟩) hI.2 (fun q _ h => ga_sub hAC hA0 hI.2 q h) (ga_sub hAC hA0 hI.2) (fun v t H1 locs1 ht hWt hpost _ _ hS => ?_) (fun x t H1 locs1 ht hWt hpost _ _ hS => ?_)
  · rcases hpost.1 _ rfl with ⟨z18, hv, c19, c19_0, c19_1, hI1⟩
    cases hv
    have hI : sI (dC, dI) vcl cI cJ (gsC a he dp co li op wd tl lc sf lf) A s.heap H1 locs1 := ⟨by rw [← ht]; exact hI1, hS⟩
    clear hpost hI1 hS ht hWt
    revert hI; generalize H1 = H; generalize locs1 = locs; intro hI
    refine lv_istore (lv' := [(4, .int z18), (0, .ref (a 17)), (1, .int x1), (2, .int x2), (3, .int x3)]) hx hb d_Tr_setProperty_6 hl (by decide) rfl (fun ls hl => ?_)
    refine lv_iload hx hb d_Tr_setProperty_8 (lv_at hl 0 rfl) ?_
    refine sn_if_ne (tgt := 17) hx hb d_Tr_setProperty_10 (by decide) (fun b20 => ?_) (fun b20 => ?_)
    · refine lv_aload_n hx hb d_Tr_setProperty_17 rfl (lv_at hl 1 rfl) ?_
      refine lv_iload hx hb d_Tr_setProperty_18 (lv_at hl 0 rfl) ?_
      refine tz_call (A1 := ga (adC a) H.size) (tz_runV (C := "StoryMachine$Tree") (As := [.int z18]) (rest := []) ⟨hx, hb, hml, hown, hts⟩ (c_Tr_propertyLength l hfl dC dI cI cJ a H.size he dp co li op wd tl lc sf lf z18 c19) (tx_cb (n := 1) hts rfl rfl ⟨Nat.le_of_ble_eq_true rfl, Nat.le_of_ble_eq_true rfl⟩ (tx_code.of (hts _ mw_760)) (hts _ mw_9) (by decide +kernel) (hts _ mw_832)) (hts _ mw_758) (hts _ mw_759) ⟨tz_blind, sv_recv (q0 := 17) hts in_Tr hK hI kC_17 rfl, fun U hU hW => ⟨rfl, by rw [hU], by rw [hU]; exact hI.1, va_K.moved hW.alike hK, hst _ _ hI.2 U hU hW⟩⟩ rfl rfl hl.1 rfl (lv_room (Nat.le_of_ble_eq_true rfl)) d_Tr_setProperty_20 ⟨Nat.le_of_ble_eq_true rfl, Nat.le_of_ble_eq_true rfl⟩) hI.2 (fun q _ h => ga_sub hAC hA0 hI.2 q h) (ga_sub hAC hA0 hI.2) (fun v t H1 locs1 ht hWt hpost _ _ hS => ?_) (fun x t H1 locs1 ht hWt hpost _ _ hS => ?_)
      · rcases hpost.1 _ rfl with ⟨z21, hv, c22, c22_0, c22_1, hI1⟩
        cases hv
        have hI : sI (dC, dI) vcl cI cJ (gsC a he dp co li op wd tl lc sf lf) A s.heap H1 locs1 := ⟨by rw [← ht]; exact hI1, hS⟩
        clear hpost hI1 hS ht hWt
        revert hI; generalize H1 = H; generalize locs1 = locs; intro hI
        refine lv_istore (lv' := [(5, .int z21), (4, .int z18), (0, .ref (a 17)), (1, .int x1), (2, .int x2), (3, .int x3)]) hx hb d_Tr_setProperty_23 hl (by decide) rfl (fun ls hl => ?_)
        refine lv_iload hx hb d_Tr_setProperty_25 (lv_at hl 0 rfl) ?_
        refine sn_iconst hx hb d_Tr_setProperty_27 (by decide) (fun z23 hz23 => ?_)
        refine sn_icmp_ne (tgt := 44) hx hb d_Tr_setProperty_28 (by decide) (fun b24 => ?_) (fun b24 => ?_)
        · refine lv_iload hx hb d_Tr_setProperty_44 (lv_at hl 0 rfl) ?_
          refine sn_iconst hx hb d_Tr_setProperty_46 (by decide) (fun z25 hz25 => ?_)
          refine sn_icmp_ne (tgt := 63) hx hb d_Tr_setProperty_47 (by decide) (fun b26 => ?_) (fun b26 => ?_)
          · refine W.widen (k := 0) (n := 0) (Nat.le_of_ble_eq_true rfl) (Nat.le_of_ble_eq_true rfl) ?_
            subst hZ
            exact tz_thrown (tth_Tr_IllegalArgumentException hx hb hfl hown hts (hst _ _ hI.2) (by rw [hml]; exact hl.1) d_Tr_setProperty_63 d_Tr_setProperty_66 d_Tr_setProperty_67 d_Tr_setProperty_70 (tx_noH B (hts _ mw_888) _) (Nat.le_of_ble_eq_true rfl) (Nat.le_of_ble_eq_true rfl) (Nat.le_of_ble_eq_true rfl) (Nat.le_of_ble_eq_true rfl) (fun t ce hW hz hk hce hcl hvm => ⟨⟨⟨fun v9 hv9 => (by cases hv9), fun x9 hx9 => by cases hx9; exact (⟨⟨ce, hce, hcl, hvm⟩, c22, sh_kept hI.1 hk⟩)⟩, ta_thrown hI.2 hz hk⟩, _, rfl⟩) hI.2.2.2 hlocks)
          · refine lv_aload_n hx hb d_Tr_setProperty_50 rfl (lv_at hl 2 rfl) ?_
            refine sv_getr (C := "StoryMachine$Tree") (T := T_Tr) (N := 1) hx hb hts in_Tr hown hK hI 17 kC_17 rfl 0 (by decide) (hts _ mw_181) rfl d_Tr_setProperty_51 ?_
            refine lv_iload hx hb d_Tr_setProperty_54 (lv_at hl 1 rfl) ?_
            refine lv_iload_n hx hb d_Tr_setProperty_56 rfl (lv_at hl 5 rfl) ?_
            refine tz_call (A1 := ga (adC a) H.size) (tz_runV (C := "StoryMachine$Memory") (As := [.int z18, .int x3]) (rest := []) ⟨hx, hb, hml, hown, hts⟩ (c_Me_writeWord l hfl dC dI cI cJ a H.size he dp co li op wd tl lc sf lf z18 x3 c22) (tx_cb (n := 2) hts rfl rfl ⟨Nat.le_of_ble_eq_true rfl, Nat.le_of_ble_eq_true rfl⟩ (tx_code.of (hts _ mw_636)) (hts _ mw_2) (by decide +kernel) (hts _ mw_889)) (hts _ mw_634) (hts _ mw_635) ⟨tz_blind, sv_recv (q0 := 1) hts in_Me hK hI kC_1 rfl, fun U hU hW => ⟨rfl, by rw [hU], by rw [hU]; exact hI.1, va_K.moved hW.alike hK, hst _ _ hI.2 U hU hW⟩⟩ rfl rfl hl.1 rfl (lv_room (Nat.le_of_ble_eq_true rfl)) d_Tr_setProperty_57 ⟨Nat.le_of_ble_eq_true rfl, Nat.le_of_ble_eq_true rfl⟩) hI.2 (fun q _ h => ga_sub hAC hA0 hI.2 q h) (ga_sub hAC hA0 hI.2) (fun v t H1 locs1 ht hWt hpost _ _ hS => ?_) (fun x t H1 locs1 ht hWt hpost _ _ hS => ?_)
            · rcases hpost.1 _ rfl with ⟨hv, c27, c27_0, c27_1, hI1⟩
              cases hv
              have hI : sI (dC, dI) vcl cI cJ (gsC a he dp co li op wd tl lc sf lf) A s.heap H1 locs1 := ⟨by rw [← ht]; exact hI1, hS⟩
              clear hpost hI1 hS ht hWt
              revert hI; generalize H1 = H; generalize locs1 = locs; intro hI
              refine lv_goto (tgt := 71) hx hb d_Tr_setProperty_60 (by decide) ?_
              subst hZ
              exact tz_ret (W.vret hx hb hr (fun t ht hW => ⟨⟨fun v9 hv9 => by cases hv9; exact (⟨rfl, c27, by rw [ht]; exact hI.1⟩), fun x9 hx9 => (by cases hx9)⟩, hI.2.F ht⟩) hI.2.2.2 d_Tr_setProperty_71)
            · rcases hpost.2 _ rfl with ⟨hex, c28, hI1⟩
              have hI : sI (dC, dI) vcl cI cJ (gsC a he dp co li op wd tl lc sf lf) A s.heap H1 locs1 := ⟨by rw [← ht]; exact hI1, hS⟩
              refine tz_widen (k := 1) (n := 6) (Nat.le_of_ble_eq_true rfl) (Nat.le_of_ble_eq_true rfl) ?_
              subst hZ
              exact tz_leave (tx_noH B (hts _ mw_888) _) (fun t9 ht9 hW9 => ⟨⟨fun v9 hv9 => (by cases hv9), fun x9 hx9 => by cases hx9; exact (⟨ta_exm hex ht ht9 hWt hW9, c28, by rw [ht9]; exact hI.1⟩)⟩, hI.2.F ht9⟩) hI.2.2.2 hlocks
        · refine lv_aload_n hx hb d_Tr_setProperty_31 rfl (lv_at hl 2 rfl) ?_
          refine sv_getr (C := "StoryMachine$Tree") (T := T_Tr) (N := 1) hx hb hts in_Tr hown hK hI 17 kC_17 rfl 0 (by decide) (hts _ mw_181) rfl d_Tr_setProperty_32 ?_
          refine lv_iload hx hb d_Tr_setProperty_35 (lv_at hl 1 rfl) ?_
          refine lv_iload_n hx hb d_Tr_setProperty_37 rfl (lv_at hl 5 rfl) ?_
          refine tz_call (A1 := ga (adC a) H.size) (tz_runV (C := "StoryMachine$Memory") (As := [.int z18, .int x3]) (rest := []) ⟨hx, hb, hml, hown, hts⟩ (c_Me_writeByte l hfl dC dI cI cJ a H.size he dp co li op wd tl lc sf lf z18 x3 c22) (tx_cb (n := 2) hts rfl rfl ⟨Nat.le_of_ble_eq_true rfl, Nat.le_of_ble_eq_true rfl⟩ (tx_code.of (hts _ mw_781)) (hts _ mw_2) (by decide +kernel) (hts _ mw_778)) (hts _ mw_779) (hts _ mw_780) ⟨tz_blind, sv_recv (q0 := 1) hts in_Me hK hI kC_1 rfl, fun U hU hW => ⟨rfl, by rw [hU], by rw [hU]; exact hI.1, va_K.moved hW.alike hK, hst _ _ hI.2 U hU hW⟩⟩ rfl rfl hl.1 rfl (lv_room (Nat.le_of_ble_eq_true rfl)) d_Tr_setProperty_38 ⟨Nat.le_of_ble_eq_true rfl, Nat.le_of_ble_eq_true rfl⟩) hI.2 (fun q _ h => ga_sub hAC hA0 hI.2 q h) (ga_sub hAC hA0 hI.2) (fun v t H1 locs1 ht hWt hpost _ _ hS => ?_) (fun x t H1 locs1 ht hWt hpost _ _ hS => ?_)
          · rcases hpost.1 _ rfl with ⟨hv, c29, c29_0, c29_1, hI1⟩
            cases hv
            have hI : sI (dC, dI) vcl cI cJ (gsC a he dp co li op wd tl lc sf lf) A s.heap H1 locs1 := ⟨by rw [← ht]; exact hI1, hS⟩
            clear hpost hI1 hS ht hWt
            revert hI; generalize H1 = H; generalize locs1 = locs; intro hI
            refine lv_goto (tgt := 71) hx hb d_Tr_setProperty_41 (by decide) ?_
            subst hZ
            exact tz_ret (W.vret hx hb hr (fun t ht hW => ⟨⟨fun v9 hv9 => by cases hv9; exact (⟨rfl, c29, by rw [ht]; exact hI.1⟩), fun x9 hx9 => (by cases hx9)⟩, hI.2.F ht⟩) hI.2.2.2 d_Tr_setProperty_71)
          · rcases hpost.2 _ rfl with ⟨hex, c30, hI1⟩
            have hI : sI (dC, dI) vcl cI cJ (gsC a he dp co li op wd tl lc sf lf) A s.heap H1 locs1 := ⟨by rw [← ht]; exact hI1, hS⟩
            refine tz_widen (k := 1) (n := 6) (Nat.le_of_ble_eq_true rfl) (Nat.le_of_ble_eq_true rfl) ?_
            subst hZ
            exact tz_leave (tx_noH B (hts _ mw_888) _) (fun t9 ht9 hW9 => ⟨⟨fun v9 hv9 => (by cases hv9), fun x9 hx9 => by cases hx9; exact (⟨ta_exm hex ht ht9 hWt hW9, c30, by rw [ht9]; exact hI.1⟩)⟩, hI.2.F ht9⟩) hI.2.2.2 hlocks
      · rcases hpost.2 _ rfl with ⟨hex, c31, hI1⟩
        have hI : sI (dC, dI) vcl cI cJ (gsC a he dp co li op wd tl lc sf lf) A s.heap H1 locs1 := ⟨by rw [← ht]; exact hI1, hS⟩
        refine tz_widen (k := 1) (n := 6) (Nat.le_of_ble_eq_true rfl) (Nat.le_of_ble_eq_true rfl) ?_
        subst hZ
        exact tz_leave (tx_noH B (hts _ mw_888) _) (fun t9 ht9 hW9 => ⟨⟨fun v9 hv9 => (by cases hv9), fun x9 hx9 => by cases hx9; exact (⟨ta_exm hex ht ht9 hWt hW9, c31, by rw [ht9]; exact hI.1⟩)⟩, hI.2.F ht9⟩) hI.2.2.2 hlocks
    · refine sn_iconst hx hb d_Tr_setProperty_13 (by decide) (fun z32 hz32 => ?_)
      refine lv_goto (tgt := 23) hx hb d_Tr_setProperty_14 (by decide) ?_
      refine lv_istore (lv' := [(5, .int z32), (4, .int z18), (0, .ref (a 17)), (1, .int x1), (2, .int x2), (3, .int x3)]) hx hb d_Tr_setProperty_23 hl (by decide) rfl (fun ls hl => ?_)
      refine lv_iload hx hb d_Tr_setProperty_25 (lv_at hl 0 rfl) ?_
      refine sn_iconst hx hb d_Tr_setProperty_27 (by decide) (fun z33 hz33 => ?_)
      refine sn_icmp_ne (tgt := 44) hx hb d_Tr_setProperty_28 (by decide) (fun b34 => ?_) (fun b34 => ?_)
      · refine lv_iload hx hb d_Tr_setProperty_44 (lv_at hl 0 rfl) ?_
        refine sn_iconst hx hb d_Tr_setProperty_46 (by decide) (fun z35 hz35 => ?_)
        refine sn_icmp_ne (tgt := 63) hx hb d_Tr_setProperty_47 (by decide) (fun b36 => ?_) (fun b36 => ?_)
        · refine W.widen (k := 0) (n := 0) (Nat.le_of_ble_eq_true rfl) (Nat.le_of_ble_eq_true rfl) ?_
          subst hZ
          exact tz_thrown (tth_Tr_IllegalArgumentException hx hb hfl hown hts (hst _ _ hI.2) (by rw [hml]; exact hl.1) d_Tr_setProperty_63 d_Tr_setProperty_66 d_Tr_setProperty_67 d_Tr_setProperty_70 (tx_noH B (hts _ mw_888) _) (Nat.le_of_ble_eq_true rfl) (Nat.le_of_ble_eq_true rfl) (Nat.le_of_ble_eq_true rfl) (Nat.le_of_ble_eq_true rfl) (fun t ce hW hz hk hce hcl hvm => ⟨⟨⟨fun v9 hv9 => (by cases hv9), fun x9 hx9 => by cases hx9; exact (⟨⟨ce, hce, hcl, hvm⟩, c19, sh_kept hI.1 hk⟩)⟩, ta_thrown hI.2 hz hk⟩, _, rfl⟩) hI.2.2.2 hlocks)
        · omega
      · omega
  · rcases hpost.2 _ rfl with ⟨hex, c37, hI1⟩
    have hI : sI (dC, dI) vcl cI cJ (gsC a he dp co li op wd tl lc sf lf) A s.heap H1 locs1 := ⟨by rw [← ht]; exact hI1, hS⟩
    refine tz_widen (k := 1) (n := 6) (Nat.le_of_ble_eq_true rfl) (Nat.le_of_ble_eq_true rfl) ?_
    subst hZ
    exact tz_leave (tx_noH B (hts _ mw_888) _) (fun t9 ht9 hW9 => ⟨⟨fun v9 hv9 => (by cases hv9), fun x9 hx9 => by cases hx9; exact (⟨ta_exm hex ht ht9 hWt hW9, c37, by rw [ht9]; exact hI.1⟩)⟩, hI.2.F ht9⟩) hI.2.2.2 hlocks
abbrev q_Tr_propertyBehind (dC : Nat → ClassId) (dI : Nat → Nat → Nat) (cI cJ : ClassId) (a : Nat → Nat) (he dp co li op wd tl lc : Int) (sf lf : Nat → Int32) (x1 : Int32) (x2 : Int32) : Outcome → State → Prop := fun o t => (∀ v, o = .returned v → ((∃ (z : Int32), v = some (.int z) ∧ okC he dp co li op wd tl lc sf lf ∧ 0 ≤ z.toInt ∧ z.toInt ≤ 31 ∧ sh_I (dC, dI) vcl cI cJ (gsC a he dp co li op wd tl lc sf lf) t.heap))) ∧ (∀ x, o = .threw x → ((ta_Ex "java/lang/IllegalArgumentException" x t ∧ okC he dp co li op wd tl lc sf lf ∧ sh_I (dC, dI) vcl cI cJ (gsC a he dp co li op wd tl lc sf lf) t.heap)))
def rm_Tr_propertyBehind : Room := { frames := 9, cells := 1, slots := 6, locals := 176 }
set_option maxHeartbeats 4000000 in
set_option maxRecDepth 100000 in
theorem c_Tr_propertyBehind (l : Launch) (hfl : l.flags = pinnedFlags ++ [noTraceFlag]) (dC : Nat → ClassId) (dI : Nat → Nat → Nat) (cI cJ : ClassId) (a : Nat → Nat) (sz : Nat) (he dp co li op wd tl lc : Int) (sf lf : Nat → Int32) (x1 : Int32) (x2 : Int32) (hok : okC he dp co li op wd tl lc sf lf) : tz_Met l ⟨"StoryMachine$Tree", "propertyBehind", "(II)I"⟩ tw_tbl rm_Tr_propertyBehind (tzP (dC, dI) vcl cI cJ (gsC a he dp co li op wd tl lc sf lf) (adC a) [.ref (a 17), .int x1, .int x2] sz) (tq_Q (q_Tr_propertyBehind dC dI cI cJ a he dp co li op wd tl lc sf lf x1 x2) (ga (adC a) sz)) 0 0 1 6 (ga (adC a) sz) := by
  refine tz_ofW (cc := prog_10_method_20_code) (maxL := 4) (ret := (some .int)) (by decide) (tx_isM mw_837) ?_
  intro p e s m args below meth c s₁ B hml hv
  obtain ⟨rfl, hsz, hI0, hK, hst0⟩ := hv
  have hx := B.exec
  have hb := B.bytes
  have hr := B.returns
  have hts := atoms_spec (ws := tw_tbl) B.pre
  have hown : s.vm.findClass "StoryMachine$Tree" = some m.cls := findClass_of_methodNamed B.named
  have hlocks := B.notSynchronized
  subst hsz
  have hst := fun (H : Heap) (locs : List Loc) (hS : va_S (ga (adC a) s.heap.size) s.heap H locs) (U : State) (hU : U.heap = H) (hW : s.WarmedH U.vm) => zS_all adC_map hI0 hst0 hS hU hW
  have hAC : ∀ q ∈ adC a, ga (adC a) s.heap.size q := fun q h => Or.inl h
  have hA0 : ∀ q, s.heap.size ≤ q → ga (adC a) s.heap.size q := fun q h => Or.inr h
  have hI : sI (dC, dI) vcl cI cJ (gsC a he dp co li op wd tl lc sf lf) (ga (adC a) s.heap.size) s.heap s.heap [] := ⟨hI0, va_S.rf⟩
  clear hI0 hst0
  have hl := lv_entry ([.ref (a 17), .int x1, .int x2]) (n := 4) (Nat.le_of_ble_eq_true rfl)
  rw [lg_entry_eq]
  generalize (lg_sl ([.ref (a 17), .int x1, .int x2]) ++ List.replicate (4 - (lg_sl ([.ref (a 17), .int x1, .int x2])).length) Slot.unset).toArray = ls at hl ⊢
  have hl : lv_has ls 4 [(0, .ref (a 17)), (1, .int x1), (2, .int x2)] := hl
  generalize hZ : tz_MQ below (tq_Q (q_Tr_propertyBehind dC dI cI cJ a he dp co li op wd tl lc sf lf x1 x2) (ga (adC a) s.heap.size)) ([.ref (a 17), .int x1, .int x2] : List Value).toArray s 0 0 1 6 (ga (adC a) s.heap.size) = Z
  obtain ⟨A, hAe⟩ : ∃ A, A = ga (adC a) s.heap.size := ⟨_, rfl⟩
  rw [← hAe] at hst hAC hA0 hI hZ
  refine sv_start hI (fun H locs hI => ?_)
  obtain ⟨⟨o1, o2⟩, ⟨o3, o4⟩, ⟨o5, o6⟩, ⟨o7, o8⟩, ⟨o9, o10⟩, ⟨o11, o12⟩, ⟨o13, o14⟩, ⟨o15, o16⟩, o17, -⟩ := id hok
  have gx1 := sn_rng x1
  have gx2 := sn_rng x2
  refine lv_iload_n hx hb d_Tr_propertyBehind_0 rfl (lv_at hl 2 rfl) ?_
  refine sn_if_ne (tgt := 16) hx hb d_Tr_propertyBehind_1 (by decide) (fun b18 => ?_) (fun b18 => ?_)
  · refine lv_aload_n hx hb d_Tr_propertyBehind_16 rfl (lv_at hl 0 rfl) ?_
    refine lv_iload_n hx hb d_Tr_propertyBehind_17 rfl (lv_at hl 1 rfl) ?_
    refine lv_iload_n hx hb d_Tr_propertyBehind_18 rfl (lv_at hl 2 rfl) ?_
    refine tz_call (A1 := ga (adC a) H.size) (tz_runV (C := "StoryMachine$Tree") (As := [.int x1, .int x2]) (rest := []) ⟨hx, hb, hml, hown, hts⟩ (c_Tr_propertyPlace l hfl dC dI cI cJ a H.size he dp co li op wd tl lc sf lf x1 x2 hok) (tx_cb (n := 2) hts rfl rfl ⟨Nat.le_of_ble_eq_true rfl, Nat.le_of_ble_eq_true rfl⟩ (tx_code.of (hts _ mw_827)) (hts _ mw_9) (by decide +kernel) (hts _ mw_824)) (hts _ mw_825) (hts _ mw_826) ⟨tz_blind, sv_recv (q0 := 17) hts in_Tr hK hI kC_17 rfl, fun U hU hW => ⟨rfl, by rw [hU], by rw [hU]; exact hI.1, va_K.moved hW.alike hK, hst _ _ hI.2 U hU hW⟩⟩ rfl rfl hl.1 rfl (lv_room (Nat.le_of_ble_eq_true rfl)) d_Tr_propertyBehind_19 ⟨Nat.le_of_ble_eq_true rfl, Nat.le_of_ble_eq_true rfl⟩) hI.2 (fun q _ h => ga_sub hAC hA0 hI.2 q h) (ga_sub hAC hA0 hI.2) (fun v t H1 locs1 ht hWt hpost _ _ hS => ?_) (fun x t H1 locs1 ht hWt hpost _ _ hS => ?_)
    · rcases hpost.1 _ rfl with ⟨z19, hv, c20, c20_0, c20_1, hI1⟩
      cases hv
      have hI : sI (dC, dI) vcl cI cJ (gsC a he dp co li op wd tl lc sf lf) A s.heap H1 locs1 := ⟨by rw [← ht]; exact hI1, hS⟩
      clear hpost hI1 hS ht hWt
      revert hI; generalize H1 = H; generalize locs1 = locs; intro hI
      refine lv_istore_n (lv' := [(3, .int z19), (0, .ref (a 17)), (1, .int x1), (2, .int x2)]) hx hb d_Tr_propertyBehind_22 rfl hl (by decide) rfl (fun ls hl => ?_)
      refine lv_iload_n hx hb d_Tr_propertyBehind_23 rfl (lv_at hl 0 rfl) ?_
      refine sn_if_ne (tgt := 35) hx hb d_Tr_propertyBehind_24 (by decide) (fun b21 => ?_) (fun b21 => ?_)
      · refine lv_aload_n hx hb d_Tr_propertyBehind_35 rfl (lv_at hl 1 rfl) ?_
        refine sv_getr (C := "StoryMachine$Tree") (T := T_Tr) (N := 1) hx hb hts in_Tr hown hK hI 17 kC_17 rfl 0 (by decide) (hts _ mw_181) rfl d_Tr_propertyBehind_36 ?_
        refine lv_iload_n hx hb d_Tr_propertyBehind_39 rfl (lv_at hl 0 rfl) ?_
        refine lv_aload_n hx hb d_Tr_propertyBehind_40 rfl (lv_at hl 1 rfl) ?_
        refine lv_iload_n hx hb d_Tr_propertyBehind_41 rfl (lv_at hl 0 rfl) ?_
        refine tz_call (A1 := ga (adC a) H.size) (tz_runV (C := "StoryMachine$Tree") (As := [.int z19]) (rest := [.int z19, .ref (a 1)]) ⟨hx, hb, hml, hown, hts⟩ (c_Tr_propertyLength l hfl dC dI cI cJ a H.size he dp co li op wd tl lc sf lf z19 c20) (tx_cb (n := 1) hts rfl rfl ⟨Nat.le_of_ble_eq_true rfl, Nat.le_of_ble_eq_true rfl⟩ (tx_code.of (hts _ mw_760)) (hts _ mw_9) (by decide +kernel) (hts _ mw_832)) (hts _ mw_758) (hts _ mw_759) ⟨tz_blind, sv_recv (q0 := 17) hts in_Tr hK hI kC_17 rfl, fun U hU hW => ⟨rfl, by rw [hU], by rw [hU]; exact hI.1, va_K.moved hW.alike hK, hst _ _ hI.2 U hU hW⟩⟩ rfl rfl hl.1 rfl (lv_room (Nat.le_of_ble_eq_true rfl)) d_Tr_propertyBehind_42 ⟨Nat.le_of_ble_eq_true rfl, Nat.le_of_ble_eq_true rfl⟩) hI.2 (fun q _ h => ga_sub hAC hA0 hI.2 q h) (ga_sub hAC hA0 hI.2) (fun v t H1 locs1 ht hWt hpost _ _ hS => ?_) (fun x t H1 locs1 ht hWt hpost _ _ hS => ?_)
        · rcases hpost.1 _ rfl with ⟨z22, hv, c23, c23_0, c23_1, hI1⟩
          cases hv
          have hI : sI (dC, dI) vcl cI cJ (gsC a he dp co li op wd tl lc sf lf) A s.heap H1 locs1 := ⟨by rw [← ht]; exact hI1, hS⟩
          clear hpost hI1 hS ht hWt
          revert hI; generalize H1 = H; generalize locs1 = locs; intro hI
          refine sn_iaddT hx hb d_Tr_propertyBehind_45 (fun z24 hz24a hz24b => ?_)
          refine tz_call (A1 := ga (adC a) H.size) (tz_runV (C := "StoryMachine$Memory") (As := [.int z24]) (rest := []) ⟨hx, hb, hml, hown, hts⟩ (c_Me_byteAt l hfl dC dI cI cJ a H.size he dp co li op wd tl lc sf lf z24 c23) (tx_cb (n := 1) hts rfl rfl ⟨Nat.le_of_ble_eq_true rfl, Nat.le_of_ble_eq_true rfl⟩ (tx_code.of (hts _ mw_511)) (hts _ mw_2) (by decide +kernel) (hts _ mw_748)) (hts _ mw_509) (hts _ mw_510) ⟨tz_blind, sv_recv (q0 := 1) hts in_Me hK hI kC_1 rfl, fun U hU hW => ⟨rfl, by rw [hU], by rw [hU]; exact hI.1, va_K.moved hW.alike hK, hst _ _ hI.2 U hU hW⟩⟩ rfl rfl hl.1 rfl (lv_room (Nat.le_of_ble_eq_true rfl)) d_Tr_propertyBehind_46 ⟨Nat.le_of_ble_eq_true rfl, Nat.le_of_ble_eq_true rfl⟩) hI.2 (fun q _ h => ga_sub hAC hA0 hI.2 q h) (ga_sub hAC hA0 hI.2) (fun v t H1 locs1 ht hWt hpost _ _ hS => ?_) (fun x t H1 locs1 ht hWt hpost _ _ hS => ?_)
          · rcases hpost.1 _ rfl with ⟨z25, hv, c26, c26_0, c26_1, c26_2, c26_3, hI1⟩
            cases hv
            have hI : sI (dC, dI) vcl cI cJ (gsC a he dp co li op wd tl lc sf lf) A s.heap H1 locs1 := ⟨by rw [← ht]; exact hI1, hS⟩
            clear hpost hI1 hS ht hWt
            revert hI; generalize H1 = H; generalize locs1 = locs; intro hI
            refine sn_bipush hx hb d_Tr_propertyBehind_49 (by decide) (fun z27 hz27 => ?_)
            refine sn_iand (k := 5) (M := 31) hx hb d_Tr_propertyBehind_51 (by decide) (by decide) (by omega) (fun z28 hz28a hz28b hz28c => ?_)
            clear hz28c
            subst hZ
            exact tz_ret (W.iret (v := z28) hx hb hr (fun t ht hW => ⟨⟨fun v9 hv9 => by cases hv9; exact (⟨z28, rfl, c26, by omega, by omega, by rw [ht]; exact hI.1⟩), fun x9 hx9 => (by cases hx9)⟩, hI.2.F ht⟩) hI.2.2.2 d_Tr_propertyBehind_52)
          · rcases hpost.2 _ rfl with ⟨hex, c29, hI1⟩
            have hI : sI (dC, dI) vcl cI cJ (gsC a he dp co li op wd tl lc sf lf) A s.heap H1 locs1 := ⟨by rw [← ht]; exact hI1, hS⟩
            refine tz_widen (k := 1) (n := 6) (Nat.le_of_ble_eq_true rfl) (Nat.le_of_ble_eq_true rfl) ?_
            subst hZ
            exact tz_leave (tx_noH B (hts _ mw_837) _) (fun t9 ht9 hW9 => ⟨⟨fun v9 hv9 => (by cases hv9), fun x9 hx9 => by cases hx9; exact (⟨ta_exm hex ht ht9 hWt hW9, c29, by rw [ht9]; exact hI.1⟩)⟩, hI.2.F ht9⟩) hI.2.2.2 hlocks
        · rcases hpost.2 _ rfl with ⟨hex, c30, hI1⟩
          have hI : sI (dC, dI) vcl cI cJ (gsC a he dp co li op wd tl lc sf lf) A s.heap H1 locs1 := ⟨by rw [← ht]; exact hI1, hS⟩
          refine tz_widen (k := 1) (n := 6) (Nat.le_of_ble_eq_true rfl) (Nat.le_of_ble_eq_true rfl) ?_
          subst hZ
          exact tz_leave (tx_noH B (hts _ mw_837) _) (fun t9 ht9 hW9 => ⟨⟨fun v9 hv9 => (by cases hv9), fun x9 hx9 => by cases hx9; exact (⟨ta_exm hex ht ht9 hWt hW9, c30, by rw [ht9]; exact hI.1⟩)⟩, hI.2.F ht9⟩) hI.2.2.2 hlocks
      · refine W.widen (k := 0) (n := 0) (Nat.le_of_ble_eq_true rfl) (Nat.le_of_ble_eq_true rfl) ?_
        subst hZ
        exact tz_thrown (tth_Tr_IllegalArgumentException hx hb hfl hown hts (hst _ _ hI.2) (by rw [hml]; exact hl.1) d_Tr_propertyBehind_27 d_Tr_propertyBehind_30 d_Tr_propertyBehind_31 d_Tr_propertyBehind_34 (tx_noH B (hts _ mw_837) _) (Nat.le_of_ble_eq_true rfl) (Nat.le_of_ble_eq_true rfl) (Nat.le_of_ble_eq_true rfl) (Nat.le_of_ble_eq_true rfl) (fun t ce hW hz hk hce hcl hvm => ⟨⟨⟨fun v9 hv9 => (by cases hv9), fun x9 hx9 => by cases hx9; exact (⟨⟨ce, hce, hcl, hvm⟩, c20, sh_kept hI.1 hk⟩)⟩, ta_thrown hI.2 hz hk⟩, _, rfl⟩) hI.2.2.2 hlocks)
    · rcases hpost.2 _ rfl with ⟨hex, c31, hI1⟩
      have hI : sI (dC, dI) vcl cI cJ (gsC a he dp co li op wd tl lc sf lf) A s.heap H1 locs1 := ⟨by rw [← ht]; exact hI1, hS⟩
      refine tz_widen (k := 1) (n := 6) (Nat.le_of_ble_eq_true rfl) (Nat.le_of_ble_eq_true rfl) ?_
      subst hZ
      exact tz_leave (tx_noH B (hts _ mw_837) _) (fun t9 ht9 hW9 => ⟨⟨fun v9 hv9 => (by cases hv9), fun x9 hx9 => by cases hx9; exact (⟨ta_exm hex ht ht9 hWt hW9, c31, by rw [ht9]; exact hI.1⟩)⟩, hI.2.F ht9⟩) hI.2.2.2 hlocks
  · refine lv_aload_n hx hb d_Tr_propertyBehind_4 rfl (lv_at hl 0 rfl) ?_
    refine sv_getr (C := "StoryMachine$Tree") (T := T_Tr) (N := 1) hx hb hts in_Tr hown hK hI 17 kC_17 rfl 0 (by decide) (hts _ mw_181) rfl d_Tr_propertyBehind_5 ?_
    refine lv_iload_n hx hb d_Tr_propertyBehind_8 rfl (lv_at hl 1 rfl) ?_
    refine tz_call (A1 := ga (adC a) H.size) (tz_runV (C := "StoryMachine$Memory") (As := [.int x1]) (rest := []) ⟨hx, hb, hml, hown, hts⟩ (c_Me_byteAt l hfl dC dI cI cJ a H.size he dp co li op wd tl lc sf lf x1 hok) (tx_cb (n := 1) hts rfl rfl ⟨Nat.le_of_ble_eq_true rfl, Nat.le_of_ble_eq_true rfl⟩ (tx_code.of (hts _ mw_511)) (hts _ mw_2) (by decide +kernel) (hts _ mw_748)) (hts _ mw_509) (hts _ mw_510) ⟨tz_blind, sv_recv (q0 := 1) hts in_Me hK hI kC_1 rfl, fun U hU hW => ⟨rfl, by rw [hU], by rw [hU]; exact hI.1, va_K.moved hW.alike hK, hst _ _ hI.2 U hU hW⟩⟩ rfl rfl hl.1 rfl (lv_room (Nat.le_of_ble_eq_true rfl)) d_Tr_propertyBehind_9 ⟨Nat.le_of_ble_eq_true rfl, Nat.le_of_ble_eq_true rfl⟩) hI.2 (fun q _ h => ga_sub hAC hA0 hI.2 q h) (ga_sub hAC hA0 hI.2) (fun v t H1 locs1 ht hWt hpost _ _ hS => ?_) (fun x t H1 locs1 ht hWt hpost _ _ hS => ?_)
    · rcases hpost.1 _ rfl with ⟨z32, hv, c33, c33_0, c33_1, c33_2, c33_3, hI1⟩
      cases hv
      have hI : sI (dC, dI) vcl cI cJ (gsC a he dp co li op wd tl lc sf lf) A s.heap H1 locs1 := ⟨by rw [← ht]; exact hI1, hS⟩
      clear hpost hI1 hS ht hWt
      revert hI; generalize H1 = H; generalize locs1 = locs; intro hI
      refine sn_bipush hx hb d_Tr_propertyBehind_12 (by decide) (fun z34 hz34 => ?_)
      refine sn_iand (k := 5) (M := 31) hx hb d_Tr_propertyBehind_14 (by decide) (by decide) (by omega) (fun z35 hz35a hz35b hz35c => ?_)
      clear hz35c
      subst hZ
      exact tz_ret (W.iret (v := z35) hx hb hr (fun t ht hW => ⟨⟨fun v9 hv9 => by cases hv9; exact (⟨z35, rfl, c33, by omega, by omega, by rw [ht]; exact hI.1⟩), fun x9 hx9 => (by cases hx9)⟩, hI.2.F ht⟩) hI.2.2.2 d_Tr_propertyBehind_15)
    · rcases hpost.2 _ rfl with ⟨hex, c36, hI1⟩
      have hI : sI (dC, dI) vcl cI cJ (gsC a he dp co li op wd tl lc sf lf) A s.heap H1 locs1 := ⟨by rw [← ht]; exact hI1, hS⟩
      refine tz_widen (k := 1) (n := 6) (Nat.le_of_ble_eq_true rfl) (Nat.le_of_ble_eq_true rfl) ?_
      subst hZ
      exact tz_leave (tx_noH B (hts _ mw_837) _) (fun t9 ht9 hW9 => ⟨⟨fun v9 hv9 => (by cases hv9), fun x9 hx9 => by cases hx9; exact (⟨ta_exm hex ht ht9 hWt hW9, c36, by rw [ht9]; exact hI.1⟩)⟩, hI.2.F ht9⟩) hI.2.2.2 hlocks
abbrev q_Di_isSeparator (dC : Nat → ClassId) (dI : Nat → Nat → Nat) (cI cJ : ClassId) (a : Nat → Nat) (he dp co li op wd tl lc : Int) (sf lf : Nat → Int32) (x1 : Int32) : Outcome → State → Prop := fun o t => (∀ v, o = .returned v → ((∃ (z : Int32), v = some (.int z) ∧ okC he dp co li op wd tl lc sf lf ∧ 0 ≤ z.toInt ∧ z.toInt ≤ 0 ∧ sh_I (dC, dI) vcl cI cJ (gsC a he dp co li op wd tl lc sf lf) t.heap) ∨ (∃ (z : Int32), v = some (.int z) ∧ okC he dp co li op wd tl lc sf lf ∧ 1 ≤ z.toInt ∧ z.toInt ≤ 1 ∧ 0 ≤ x1.toInt ∧ x1.toInt ≤ 255 ∧ sh_I (dC, dI) vcl cI cJ (gsC a he dp co li op wd tl lc sf lf) t.heap))) ∧ (∀ x, o = .threw x → ((ta_Ex "java/lang/IllegalArgumentException" x t ∧ okC he dp co li op wd tl lc sf lf ∧ sh_I (dC, dI) vcl cI cJ (gsC a he dp co li op wd tl lc sf lf) t.heap)))
def rm_Di_isSeparator : Room := { frames := 8, cells := 1, slots := 6, locals := 151 }
set_option maxHeartbeats 4000000 in
set_option maxRecDepth 100000 in
theorem c_Di_isSeparator (l : Launch) (hfl : l.flags = pinnedFlags ++ [noTraceFlag]) (dC : Nat → ClassId) (dI : Nat → Nat → Nat) (cI cJ : ClassId) (a : Nat → Nat) (sz : Nat) (he dp co li op wd tl lc : Int) (sf lf : Nat → Int32) (x1 : Int32) (hok : okC he dp co li op wd tl lc sf lf) : tz_Met l ⟨"StoryMachine$Dictionary", "isSeparator", "(I)Z"⟩ tw_tbl rm_Di_isSeparator (tzP (dC, dI) vcl cI cJ (gsC a he dp co li op wd tl lc sf lf) (adC a) [.ref (a 18), .int x1] sz) (tq_Q (q_Di_isSeparator dC dI cI cJ a he dp co li op wd tl lc sf lf x1) (ga (adC a) sz)) 0 0 1 6 (ga (adC a) sz) := by
  refine tz_ofW (cc := prog_3_method_4_code) (maxL := 5) (ret := (some .boolean)) (by decide) (tx_isM mw_904) ?_
  intro p e s m args below meth c s₁ B hml hv
  obtain ⟨rfl, hsz, hI0, hK, hst0⟩ := hv
  have hx := B.exec
  have hb := B.bytes
  have hr := B.returns
  have hts := atoms_spec (ws := tw_tbl) B.pre
  have hown : s.vm.findClass "StoryMachine$Dictionary" = some m.cls := findClass_of_methodNamed B.named
  have hlocks := B.notSynchronized
  subst hsz
  have hst := fun (H : Heap) (locs : List Loc) (hS : va_S (ga (adC a) s.heap.size) s.heap H locs) (U : State) (hU : U.heap = H) (hW : s.WarmedH U.vm) => zS_all adC_map hI0 hst0 hS hU hW
  have hAC : ∀ q ∈ adC a, ga (adC a) s.heap.size q := fun q h => Or.inl h
  have hA0 : ∀ q, s.heap.size ≤ q → ga (adC a) s.heap.size q := fun q h => Or.inr h
  have hI : sI (dC, dI) vcl cI cJ (gsC a he dp co li op wd tl lc sf lf) (ga (adC a) s.heap.size) s.heap s.heap [] := ⟨hI0, va_S.rf⟩
  clear hI0 hst0
  have hl := lv_entry ([.ref (a 18), .int x1]) (n := 5) (Nat.le_of_ble_eq_true rfl)
  rw [lg_entry_eq]
  generalize (lg_sl ([.ref (a 18), .int x1]) ++ List.replicate (5 - (lg_sl ([.ref (a 18), .int x1])).length) Slot.unset).toArray = ls at hl ⊢
  have hl : lv_has ls 5 [(0, .ref (a 18)), (1, .int x1)] := hl
  generalize hZ : tz_MQ below (tq_Q (q_Di_isSeparator dC dI cI cJ a he dp co li op wd tl lc sf lf x1) (ga (adC a) s.heap.size)) ([.ref (a 18), .int x1] : List Value).toArray s 0 0 1 6 (ga (adC a) s.heap.size) = Z
  obtain ⟨A, hAe⟩ : ∃ A, A = ga (adC a) s.heap.size := ⟨_, rfl⟩
  rw [← hAe] at hst hAC hA0 hI hZ
  refine sv_start hI (fun H locs hI => ?_)
  obtain ⟨⟨o1, o2⟩, ⟨o3, o4⟩, ⟨o5, o6⟩, ⟨o7, o8⟩, ⟨o9, o10⟩, ⟨o11, o12⟩, ⟨o13, o14⟩, ⟨o15, o16⟩, o17, -⟩ := id hok
  have gx1 := sn_rng x1
  have j22 : ∀ (n : Nat) (H : Heap) (locs : List Loc) (ls : Array Slot) (v22_2 v22_3 v22_4 : Int32), sI (dC, dI) vcl cI cJ (gsC a he dp co li op wd tl lc sf lf) A s.heap H locs → okC he dp co li op wd tl lc sf lf → 0 ≤ v22_2.toInt → v22_2.toInt ≤ 511 → 0 ≤ v22_3.toInt → v22_3.toInt ≤ 255 → 1 ≤ v22_4.toInt → v22_4.toInt ≤ 256 → lv_has ls 5 [(0, .ref (a 18)), (1, .int x1), (2, .int v22_2), (3, .int v22_3), (4, .int v22_4)] → 256 - v22_4.toInt < (n : Int) → W p l e (headSpec tw_tbl rm_Di_isSeparator).room s m ([.ref (a 18), .int x1] : List Value).toArray below meth c H locs 0 0 Z (F0 m 22 ls []) := by
    intro n
    induction n with
    | zero => intro H locs ls v22_2 v22_3 v22_4 hI hok g22_0 g22_1 g22_2 g22_3 g22_4 g22_5 hl hme; exfalso; obtain ⟨⟨o18, o19⟩, ⟨o20, o21⟩, ⟨o22, o23⟩, ⟨o24, o25⟩, ⟨o26, o27⟩, ⟨o28, o29⟩, ⟨o30, o31⟩, ⟨o32, o33⟩, o34, -⟩ := id hok; omega
    | succ n ih =>
      intro H locs ls v22_2 v22_3 v22_4 hI hok g22_0 g22_1 g22_2 g22_3 g22_4 g22_5 hl hme
      obtain ⟨⟨o35, o36⟩, ⟨o37, o38⟩, ⟨o39, o40⟩, ⟨o41, o42⟩, ⟨o43, o44⟩, ⟨o45, o46⟩, ⟨o47, o48⟩, ⟨o49, o50⟩, o51, -⟩ := id hok
      refine lv_iload hx hb d_Di_isSeparator_22 (lv_at hl 4 rfl) ?_
      refine lv_iload_n hx hb d_Di_isSeparator_24 rfl (lv_at hl 3 rfl) ?_
      refine sn_icmp_gt (tgt := 51) hx hb d_Di_isSeparator_25 (by decide) (fun b52 => ?_) (fun b52 => ?_)
      · refine sn_iconst hx hb d_Di_isSeparator_51 (by decide) (fun z53 hz53 => ?_)
        subst hZ
        exact tz_ret (W.zret (v := z53) hx hb hr (sn_bool (by omega) (by omega)).1 (fun t ht hW => ⟨⟨fun v9 hv9 => by cases hv9; exact (Or.inl ⟨z53, rfl, hok, by omega, by omega, by rw [ht]; exact hI.1⟩), fun x9 hx9 => (by cases hx9)⟩, hI.2.F ht⟩) hI.2.2.2 d_Di_isSeparator_52)
      · refine lv_aload_n hx hb d_Di_isSeparator_28 rfl (lv_at hl 0 rfl) ?_
        refine sv_getr (C := "StoryMachine$Dictionary") (T := T_Di) (N := 6) hx hb hts in_Di hown hK hI 18 kC_18 rfl 0 (by decide) (hts _ mw_191) rfl d_Di_isSeparator_29 ?_
        refine lv_iload_n hx hb d_Di_isSeparator_32 rfl (lv_at hl 2 rfl) ?_
        refine lv_iload hx hb d_Di_isSeparator_33 (lv_at hl 4 rfl) ?_
        refine sn_iadd hx hb d_Di_isSeparator_35 (by omega) (by omega) (fun z54 hz54 => ?_)
        refine tz_call (A1 := ga (adC a) H.size) (tz_runV (C := "StoryMachine$Memory") (As := [.int z54]) (rest := []) ⟨hx, hb, hml, hown, hts⟩ (c_Me_byteAt l hfl dC dI cI cJ a H.size he dp co li op wd tl lc sf lf z54 hok) (tx_cb (n := 1) hts rfl rfl ⟨Nat.le_of_ble_eq_true rfl, Nat.le_of_ble_eq_true rfl⟩ (tx_code.of (hts _ mw_511)) (hts _ mw_2) (by decide +kernel) (hts _ mw_906)) (hts _ mw_509) (hts _ mw_510) ⟨tz_blind, sv_recv (q0 := 1) hts in_Me hK hI kC_1 rfl, fun U hU hW => ⟨rfl, by rw [hU], by rw [hU]; exact hI.1, va_K.moved hW.alike hK, hst _ _ hI.2 U hU hW⟩⟩ rfl rfl hl.1 rfl (lv_room (Nat.le_of_ble_eq_true rfl)) d_Di_isSeparator_36 ⟨Nat.le_of_ble_eq_true rfl, Nat.le_of_ble_eq_true rfl⟩) hI.2 (fun q _ h => ga_sub hAC hA0 hI.2 q h) (ga_sub hAC hA0 hI.2) (fun v t H1 locs1 ht hWt hpost _ _ hS => ?_) (fun x t H1 locs1 ht hWt hpost _ _ hS => ?_)
        · rcases hpost.1 _ rfl with ⟨z55, hv, c56, c56_0, c56_1, c56_2, c56_3, hI1⟩
          cases hv
          have hI : sI (dC, dI) vcl cI cJ (gsC a he dp co li op wd tl lc sf lf) A s.heap H1 locs1 := ⟨by rw [← ht]; exact hI1, hS⟩
          clear hpost hI1 hS ht hWt
          revert hI; generalize H1 = H; generalize locs1 = locs; intro hI
          refine lv_iload_n hx hb d_Di_isSeparator_39 rfl (lv_at hl 1 rfl) ?_
          refine sn_icmp_ne (tgt := 45) hx hb d_Di_isSeparator_40 (by decide) (fun b57 => ?_) (fun b57 => ?_)
          · refine sn_iinc (k := 4) hx hb d_Di_isSeparator_45 hl rfl (by decide) (by decide) (by omega) (by omega) (fun ls z58 hz58 hl => ?_)
            have hl : lv_has ls 5 [(4, .int z58), (0, .ref (a 18)), (1, .int x1), (2, .int v22_2), (3, .int v22_3)] := hl
            refine lv_goto (tgt := 22) hx hb d_Di_isSeparator_48 (by decide) ?_
            exact ih _ _ _ v22_2 v22_3 z58 hI c56 (by omega) (by omega) (by omega) (by omega) (by omega) (by omega) (lv_sub hl [1, 2, 3, 4, 0] rfl) (by omega)
          · refine sn_iconst hx hb d_Di_isSeparator_43 (by decide) (fun z59 hz59 => ?_)
            subst hZ
            exact tz_ret (W.zret (v := z59) hx hb hr (sn_bool (by omega) (by omega)).1 (fun t ht hW => ⟨⟨fun v9 hv9 => by cases hv9; exact (Or.inr (⟨z59, rfl, c56, by omega, by omega, by omega, by omega, by rw [ht]; exact hI.1⟩)), fun x9 hx9 => (by cases hx9)⟩, hI.2.F ht⟩) hI.2.2.2 d_Di_isSeparator_44)
        · rcases hpost.2 _ rfl with ⟨hex, c60, hI1⟩
          have hI : sI (dC, dI) vcl cI cJ (gsC a he dp co li op wd tl lc sf lf) A s.heap H1 locs1 := ⟨by rw [← ht]; exact hI1, hS⟩
          refine tz_widen (k := 1) (n := 6) (Nat.le_of_ble_eq_true rfl) (Nat.le_of_ble_eq_true rfl) ?_
          subst hZ
          exact tz_leave (tx_noH B (hts _ mw_904) _) (fun t9 ht9 hW9 => ⟨⟨fun v9 hv9 => (by cases hv9), fun x9 hx9 => by cases hx9; exact (⟨ta_exm hex ht ht9 hWt hW9, c60, by rw [ht9]; exact hI.1⟩)⟩, hI.2.F ht9⟩) hI.2.2.2 hlocks
  refine lv_aload_n hx hb d_Di_isSeparator_0 rfl (lv_at hl 0 rfl) ?_
  refine sv_getr (C := "StoryMachine$Dictionary") (T := T_Di) (N := 6) hx hb hts in_Di hown hK hI 18 kC_18 rfl 0 (by decide) (hts _ mw_191) rfl d_Di_isSeparator_1 ?_
  refine sn_bipush hx hb d_Di_isSeparator_4 (by decide) (fun z61 hz61 => ?_)
  refine tz_call (A1 := ga (adC a) H.size) (tz_runV (C := "StoryMachine$Memory") (As := [.int z61]) (rest := []) ⟨hx, hb, hml, hown, hts⟩ (c_Me_wordAt l hfl dC dI cI cJ a H.size he dp co li op wd tl lc sf lf z61 hok) (tx_cb (n := 1) hts rfl rfl ⟨Nat.le_of_ble_eq_true rfl, Nat.le_of_ble_eq_true rfl⟩ (tx_code.of (hts _ mw_440)) (hts _ mw_2) (by decide +kernel) (hts _ mw_905)) (hts _ mw_438) (hts _ mw_439) ⟨tz_blind, sv_recv (q0 := 1) hts in_Me hK hI kC_1 rfl, fun U hU hW => ⟨rfl, by rw [hU], by rw [hU]; exact hI.1, va_K.moved hW.alike hK, hst _ _ hI.2 U hU hW⟩⟩ rfl rfl hl.1 rfl (lv_room (Nat.le_of_ble_eq_true rfl)) d_Di_isSeparator_6 ⟨Nat.le_of_ble_eq_true rfl, Nat.le_of_ble_eq_true rfl⟩) hI.2 (fun q _ h => ga_sub hAC hA0 hI.2 q h) (ga_sub hAC hA0 hI.2) (fun v t H1 locs1 ht hWt hpost _ _ hS => ?_) (fun x t H1 locs1 ht hWt hpost _ _ hS => ?_)
  · rcases hpost.1 _ rfl with ⟨z62, hv, c63, c63_0, c63_1, c63_2, c63_3, hI1⟩
    cases hv
    have hI : sI (dC, dI) vcl cI cJ (gsC a he dp co li op wd tl lc sf lf) A s.heap H1 locs1 := ⟨by rw [← ht]; exact hI1, hS⟩
    clear hpost hI1 hS ht hWt
    revert hI; generalize H1 = H; generalize locs1 = locs; intro hI
    refine lv_istore_n (lv' := [(2, .int z62), (0, .ref (a 18)), (1, .int x1)]) hx hb d_Di_isSeparator_9 rfl hl (by decide) rfl (fun ls hl => ?_)
    refine lv_aload_n hx hb d_Di_isSeparator_10 rfl (lv_at hl 1 rfl) ?_
    refine sv_getr (C := "StoryMachine$Dictionary") (T := T_Di) (N := 6) hx hb hts in_Di hown hK hI 18 kC_18 rfl 0 (by decide) (hts _ mw_191) rfl d_Di_isSeparator_11 ?_
    refine lv_iload_n hx hb d_Di_isSeparator_14 rfl (lv_at hl 0 rfl) ?_
    refine tz_call (A1 := ga (adC a) H.size) (tz_runV (C := "StoryMachine$Memory") (As := [.int z62]) (rest := []) ⟨hx, hb, hml, hown, hts⟩ (c_Me_byteAt l hfl dC dI cI cJ a H.size he dp co li op wd tl lc sf lf z62 c63) (tx_cb (n := 1) hts rfl rfl ⟨Nat.le_of_ble_eq_true rfl, Nat.le_of_ble_eq_true rfl⟩ (tx_code.of (hts _ mw_511)) (hts _ mw_2) (by decide +kernel) (hts _ mw_906)) (hts _ mw_509) (hts _ mw_510) ⟨tz_blind, sv_recv (q0 := 1) hts in_Me hK hI kC_1 rfl, fun U hU hW => ⟨rfl, by rw [hU], by rw [hU]; exact hI.1, va_K.moved hW.alike hK, hst _ _ hI.2 U hU hW⟩⟩ rfl rfl hl.1 rfl (lv_room (Nat.le_of_ble_eq_true rfl)) d_Di_isSeparator_15 ⟨Nat.le_of_ble_eq_true rfl, Nat.le_of_ble_eq_true rfl⟩) hI.2 (fun q _ h => ga_sub hAC hA0 hI.2 q h) (ga_sub hAC hA0 hI.2) (fun v t H1 locs1 ht hWt hpost _ _ hS => ?_) (fun x t H1 locs1 ht hWt hpost _ _ hS => ?_)
    · rcases hpost.1 _ rfl with ⟨z64, hv, c65, c65_0, c65_1, c65_2, c65_3, hI1⟩
      cases hv
      have hI : sI (dC, dI) vcl cI cJ (gsC a he dp co li op wd tl lc sf lf) A s.heap H1 locs1 := ⟨by rw [← ht]; exact hI1, hS⟩
      clear hpost hI1 hS ht hWt
      revert hI; generalize H1 = H; generalize locs1 = locs; intro hI
      refine lv_istore_n (lv' := [(3, .int z64), (2, .int z62), (0, .ref (a 18)), (1, .int x1)]) hx hb d_Di_isSeparator_18 rfl hl (by decide) rfl (fun ls hl => ?_)
      refine sn_iconst hx hb d_Di_isSeparator_19 (by decide) (fun z66 hz66 => ?_)
      refine lv_istore (lv' := [(4, .int z66), (3, .int z64), (2, .int z62), (0, .ref (a 18)), (1, .int x1)]) hx hb d_Di_isSeparator_20 hl (by decide) rfl (fun ls hl => ?_)
      exact j22 256 _ _ _ z62 z64 z66 hI c65 (by omega) (by omega) (by omega) (by omega) (by omega) (by omega) (lv_sub hl [3, 4, 2, 1, 0] rfl) (by omega)
    · rcases hpost.2 _ rfl with ⟨hex, c67, hI1⟩
      have hI : sI (dC, dI) vcl cI cJ (gsC a he dp co li op wd tl lc sf lf) A s.heap H1 locs1 := ⟨by rw [← ht]; exact hI1, hS⟩
      refine tz_widen (k := 1) (n := 6) (Nat.le_of_ble_eq_true rfl) (Nat.le_of_ble_eq_true rfl) ?_
      subst hZ
      exact tz_leave (tx_noH B (hts _ mw_904) _) (fun t9 ht9 hW9 => ⟨⟨fun v9 hv9 => (by cases hv9), fun x9 hx9 => by cases hx9; exact (⟨ta_exm hex ht ht9 hWt hW9, c67, by rw [ht9]; exact hI.1⟩)⟩, hI.2.F ht9⟩) hI.2.2.2 hlocks
  · rcases hpost.2 _ rfl with ⟨hex, c68, hI1⟩
    have hI : sI (dC, dI) vcl cI cJ (gsC a he dp co li op wd tl lc sf lf) A s.heap H1 locs1 := ⟨by rw [← ht]; exact hI1, hS⟩
    refine tz_widen (k := 1) (n := 6) (Nat.le_of_ble_eq_true rfl) (Nat.le_of_ble_eq_true rfl) ?_
    subst hZ
    exact tz_leave (tx_noH B (hts _ mw_904) _) (fun t9 ht9 hW9 => ⟨⟨fun v9 hv9 => (by cases hv9), fun x9 hx9 => by cases hx9; exact (⟨ta_exm hex ht ht9 hWt hW9, c68, by rw [ht9]; exact hI.1⟩)⟩, hI.2.F ht9⟩) hI.2.2.2 hlocks
abbrev q_Di_addLetter (dC : Nat → ClassId) (dI : Nat → Nat → Nat) (cI cJ : ClassId) (a : Nat → Nat) (he dp co li op wd tl lc : Int) (sf lf : Nat → Int32) (x1 : Int32) : Outcome → State → Prop := fun o t => (∀ v, o = .returned v → ((∃ (lc_ : Int), v = none ∧ okC he dp co li op wd tl lc_ sf lf ∧ 1 ≤ lc_ ∧ sh_I (dC, dI) vcl cI cJ (gsC a he dp co li op wd tl lc_ sf lf) t.heap))) ∧ (∀ x, o = .threw x → (False))
def rm_Di_addLetter : Room := { frames := 0, cells := 0, slots := 0, locals := 0 }
set_option maxHeartbeats 4000000 in
set_option maxRecDepth 100000 in
theorem c_Di_addLetter (l : Launch) (hfl : l.flags = pinnedFlags ++ [noTraceFlag]) (dC : Nat → ClassId) (dI : Nat → Nat → Nat) (cI cJ : ClassId) (a : Nat → Nat) (sz : Nat) (he dp co li op wd tl lc : Int) (sf lf : Nat → Int32) (x1 : Int32) (hok : okC he dp co li op wd tl lc sf lf) : tz_Met l ⟨"StoryMachine$Dictionary", "addLetter", "(I)V"⟩ tw_tbl rm_Di_addLetter (tzP (dC, dI) vcl cI cJ (gsC a he dp co li op wd tl lc sf lf) (adC a) [.ref (a 18), .int x1] sz) (tq_Q (q_Di_addLetter dC dI cI cJ a he dp co li op wd tl lc sf lf x1) (ga (adC a) sz)) 0 0 0 0 (ga (adC a) sz) := by
  refine tz_ofW (cc := prog_3_method_8_code) (maxL := 2) (ret := none) (by decide) (tx_isM mw_991) ?_
  intro p e s m args below meth c s₁ B hml hv
  obtain ⟨rfl, hsz, hI0, hK, hst0⟩ := hv
  have hx := B.exec
  have hb := B.bytes
  have hr := B.returns
  have hts := atoms_spec (ws := tw_tbl) B.pre
  have hown : s.vm.findClass "StoryMachine$Dictionary" = some m.cls := findClass_of_methodNamed B.named
  have hlocks := B.notSynchronized
  subst hsz
  have hst := fun (H : Heap) (locs : List Loc) (hS : va_S (ga (adC a) s.heap.size) s.heap H locs) (U : State) (hU : U.heap = H) (hW : s.WarmedH U.vm) => zS_all adC_map hI0 hst0 hS hU hW
  have hAC : ∀ q ∈ adC a, ga (adC a) s.heap.size q := fun q h => Or.inl h
  have hA0 : ∀ q, s.heap.size ≤ q → ga (adC a) s.heap.size q := fun q h => Or.inr h
  have hI : sI (dC, dI) vcl cI cJ (gsC a he dp co li op wd tl lc sf lf) (ga (adC a) s.heap.size) s.heap s.heap [] := ⟨hI0, va_S.rf⟩
  clear hI0 hst0
  have hl := lv_entry ([.ref (a 18), .int x1]) (n := 2) (Nat.le_of_ble_eq_true rfl)
  rw [lg_entry_eq]
  generalize (lg_sl ([.ref (a 18), .int x1]) ++ List.replicate (2 - (lg_sl ([.ref (a 18), .int x1])).length) Slot.unset).toArray = ls at hl ⊢
  have hl : lv_has ls 2 [(0, .ref (a 18)), (1, .int x1)] := hl
  generalize hZ : tz_MQ below (tq_Q (q_Di_addLetter dC dI cI cJ a he dp co li op wd tl lc sf lf x1) (ga (adC a) s.heap.size)) ([.ref (a 18), .int x1] : List Value).toArray s 0 0 0 0 (ga (adC a) s.heap.size) = Z
  obtain ⟨A, hAe⟩ : ∃ A, A = ga (adC a) s.heap.size := ⟨_, rfl⟩
  rw [← hAe] at hst hAC hA0 hI hZ
  refine sv_start hI (fun H locs hI => ?_)
  obtain ⟨⟨o1, o2⟩, ⟨o3, o4⟩, ⟨o5, o6⟩, ⟨o7, o8⟩, ⟨o9, o10⟩, ⟨o11, o12⟩, ⟨o13, o14⟩, ⟨o15, o16⟩, o17, -⟩ := id hok
  have gx1 := sn_rng x1
  refine lv_aload_n hx hb d_Di_addLetter_0 rfl (lv_at hl 0 rfl) ?_
  refine sv_gete (C := "StoryMachine$Dictionary") (T := T_Di) (N := 6) hx hb hts in_Di hown hK hI 18 kC_18 rfl 5 (by decide) (hts _ mw_199) rfl d_Di_addLetter_1 (fun z18 hz18 => ?_)
  refine sn_bipush hx hb d_Di_addLetter_4 (by decide) (fun z19 hz19 => ?_)
  refine sn_icmp_ge (tgt := 29) hx hb d_Di_addLetter_6 (by decide) (fun b20 => ?_) (fun b20 => ?_)
  · subst hZ
    exact tz_ret (W.vret hx hb hr (fun t ht hW => ⟨⟨fun v9 hv9 => by cases hv9; exact (⟨lc, rfl, hok, by omega, by rw [ht]; exact hI.1⟩), fun x9 hx9 => (by cases hx9)⟩, hI.2.F ht⟩) hI.2.2.2 d_Di_addLetter_29)
  · refine lv_aload_n hx hb d_Di_addLetter_9 rfl (lv_at hl 0 rfl) ?_
    refine sv_getr (C := "StoryMachine$Dictionary") (T := T_Di) (N := 6) hx hb hts in_Di hown hK hI 18 kC_18 rfl 4 (by decide) (hts _ mw_198) rfl d_Di_addLetter_10 ?_
    refine lv_aload_n hx hb d_Di_addLetter_13 rfl (lv_at hl 0 rfl) ?_
    refine sv_gete (C := "StoryMachine$Dictionary") (T := T_Di) (N := 6) hx hb hts in_Di hown hK hI 18 kC_18 rfl 5 (by decide) (hts _ mw_199) rfl d_Di_addLetter_14 (fun z21 hz21 => ?_)
    refine lv_iload_n hx hb d_Di_addLetter_17 rfl (lv_at hl 1 rfl) ?_
    refine sv_iastr hx hb hK (sh_in adC_map hAC) hI 24 kC_24 (by omega) (by omega) (by omega) (by omega) pC_24 d_Di_addLetter_18 (fun H locs hI => ?_)
    refine lv_aload_n hx hb d_Di_addLetter_19 rfl (lv_at hl 0 rfl) ?_
    refine lv_dup hx hb d_Di_addLetter_20 rfl ?_
    refine sv_gete (C := "StoryMachine$Dictionary") (T := T_Di) (N := 6) hx hb hts in_Di hown hK hI 18 kC_18 rfl 5 (by decide) (hts _ mw_199) rfl d_Di_addLetter_21 (fun z22 hz22 => ?_)
    refine sn_iconst hx hb d_Di_addLetter_24 (by decide) (fun z23 hz23 => ?_)
    refine sn_iadd hx hb d_Di_addLetter_25 (by omega) (by omega) (fun z24 hz24 => ?_)
    refine sv_put (C := "StoryMachine$Dictionary") (T := T_Di) (N := 6) (ty := .int) hx hb hts in_Di t_Di tk_Di nm_Di hown hK (sh_in adC_map hAC) hI 18 kC_18 rfl 5 (by decide) (hts _ mw_199) rfl (by decide +kernel) rfl rfl (Nat.le_of_ble_eq_true rfl) (Int.le_refl _) (Int.le_refl _) pC_18_5 d_Di_addLetter_26 (fun H locs hI => ?_)
    have ho25 : okC he dp co li op wd tl z24.toInt sf lf := ⟨hok.1, hok.2.1, hok.2.2.1, hok.2.2.2.1, hok.2.2.2.2.1, hok.2.2.2.2.2.1, hok.2.2.2.2.2.2.1, ⟨by omega, by omega⟩, hok.2.2.2.2.2.2.2.2.1, hok.2.2.2.2.2.2.2.2.2⟩
    subst hZ
    exact tz_ret (W.vret hx hb hr (fun t ht hW => ⟨⟨fun v9 hv9 => by cases hv9; exact (⟨z24.toInt, rfl, ho25, by omega, by rw [ht]; exact hI.1⟩), fun x9 hx9 => (by cases hx9)⟩, hI.2.F ht⟩) hI.2.2.2 d_Di_addLetter_29)
abbrev q_Di_packedWord (dC : Nat → ClassId) (dI : Nat → Nat → Nat) (cI cJ : ClassId) (a : Nat → Nat) (he dp co li op wd tl lc : Int) (sf lf : Nat → Int32) (x1 : Int32) : Outcome → State → Prop := fun o t => (∀ v, o = .returned v → ((∃ (z : Int32), v = some (.int z) ∧ okC he dp co li op wd tl lc sf lf ∧ (-2147483648) ≤ z.toInt ∧ z.toInt ≤ 2147483647 ∧ sh_I (dC, dI) vcl cI cJ (gsC a he dp co li op wd tl lc sf lf) t.heap))) ∧ (∀ x, o = .threw x → (False))
def rm_Di_packedWord : Room := { frames := 0, cells := 0, slots := 0, locals := 0 }
set_option maxHeartbeats 4000000 in
set_option maxRecDepth 100000 in
theorem c_Di_packedWord (l : Launch) (hfl : l.flags = pinnedFlags ++ [noTraceFlag]) (dC : Nat → ClassId) (dI : Nat → Nat → Nat) (cI cJ : ClassId) (a : Nat → Nat) (sz : Nat) (he dp co li op wd tl lc : Int) (sf lf : Nat → Int32) (x1 : Int32) (hok : okC he dp co li op wd tl lc sf lf) (hp0 : 0 ≤ x1.toInt) (hp1 : x1.toInt ≤ 3) : tz_Met l ⟨"StoryMachine$Dictionary", "packedWord", "(I)I"⟩ tw_tbl rm_Di_packedWord (tzP (dC, dI) vcl cI cJ (gsC a he dp co li op wd tl lc sf lf) (adC a) [.ref (a 18), .int x1] sz) (tq_Q (q_Di_packedWord dC dI cI cJ a he dp co li op wd tl lc sf lf x1) (ga (adC a) sz)) 0 0 0 0 (ga (adC a) sz) := by
  refine tz_ofW (cc := prog_3_method_9_code) (maxL := 2) (ret := (some .int)) (by decide) (tx_isM mw_995) ?_
  intro p e s m args below meth c s₁ B hml hv
  obtain ⟨rfl, hsz, hI0, hK, hst0⟩ := hv
  have hx := B.exec
  have hb := B.bytes
  have hr := B.returns
  have hts := atoms_spec (ws := tw_tbl) B.pre
  have hown : s.vm.findClass "StoryMachine$Dictionary" = some m.cls := findClass_of_methodNamed B.named
  have hlocks := B.notSynchronized
  subst hsz
  have hst := fun (H : Heap) (locs : List Loc) (hS : va_S (ga (adC a) s.heap.size) s.heap H locs) (U : State) (hU : U.heap = H) (hW : s.WarmedH U.vm) => zS_all adC_map hI0 hst0 hS hU hW
  have hAC : ∀ q ∈ adC a, ga (adC a) s.heap.size q := fun q h => Or.inl h
  have hA0 : ∀ q, s.heap.size ≤ q → ga (adC a) s.heap.size q := fun q h => Or.inr h
  have hI : sI (dC, dI) vcl cI cJ (gsC a he dp co li op wd tl lc sf lf) (ga (adC a) s.heap.size) s.heap s.heap [] := ⟨hI0, va_S.rf⟩
  clear hI0 hst0
  have hl := lv_entry ([.ref (a 18), .int x1]) (n := 2) (Nat.le_of_ble_eq_true rfl)
  rw [lg_entry_eq]
  generalize (lg_sl ([.ref (a 18), .int x1]) ++ List.replicate (2 - (lg_sl ([.ref (a 18), .int x1])).length) Slot.unset).toArray = ls at hl ⊢
  have hl : lv_has ls 2 [(0, .ref (a 18)), (1, .int x1)] := hl
  generalize hZ : tz_MQ below (tq_Q (q_Di_packedWord dC dI cI cJ a he dp co li op wd tl lc sf lf x1) (ga (adC a) s.heap.size)) ([.ref (a 18), .int x1] : List Value).toArray s 0 0 0 0 (ga (adC a) s.heap.size) = Z
  obtain ⟨A, hAe⟩ : ∃ A, A = ga (adC a) s.heap.size := ⟨_, rfl⟩
  rw [← hAe] at hst hAC hA0 hI hZ
  refine sv_start hI (fun H locs hI => ?_)
  obtain ⟨⟨o1, o2⟩, ⟨o3, o4⟩, ⟨o5, o6⟩, ⟨o7, o8⟩, ⟨o9, o10⟩, ⟨o11, o12⟩, ⟨o13, o14⟩, ⟨o15, o16⟩, o17, -⟩ := id hok
  have gx1 := sn_rng x1
  refine lv_aload_n hx hb d_Di_packedWord_0 rfl (lv_at hl 0 rfl) ?_
  refine sv_getr (C := "StoryMachine$Dictionary") (T := T_Di) (N := 6) hx hb hts in_Di hown hK hI 18 kC_18 rfl 4 (by decide) (hts _ mw_198) rfl d_Di_packedWord_1 ?_
  refine lv_iload_n hx hb d_Di_packedWord_4 rfl (lv_at hl 1 rfl) ?_
  refine sv_ialdr hx hb hK hI 24 kC_24 (by omega) (by omega) d_Di_packedWord_5 (fun z18 hz18a hz18b => ?_)
  refine sn_bipush hx hb d_Di_packedWord_6 (by decide) (fun z19 hz19 => ?_)
  refine sn_ishlT hx hb d_Di_packedWord_8 (fun z20 hz20a hz20b => ?_)
  refine lv_aload_n hx hb d_Di_packedWord_9 rfl (lv_at hl 0 rfl) ?_
  refine sv_getr (C := "StoryMachine$Dictionary") (T := T_Di) (N := 6) hx hb hts in_Di hown hK hI 18 kC_18 rfl 4 (by decide) (hts _ mw_198) rfl d_Di_packedWord_10 ?_
  refine lv_iload_n hx hb d_Di_packedWord_13 rfl (lv_at hl 1 rfl) ?_
  refine sn_iconst hx hb d_Di_packedWord_14 (by decide) (fun z21 hz21 => ?_)
  refine sn_iadd hx hb d_Di_packedWord_15 (by omega) (by omega) (fun z22 hz22 => ?_)
  refine sv_ialdr hx hb hK hI 24 kC_24 (by omega) (by omega) d_Di_packedWord_16 (fun z23 hz23a hz23b => ?_)
  refine sn_iconst hx hb d_Di_packedWord_17 (by decide) (fun z24 hz24 => ?_)
  refine sn_ishlT hx hb d_Di_packedWord_18 (fun z25 hz25a hz25b => ?_)
  refine sn_iorT hx hb d_Di_packedWord_19 (fun z26 hz26a hz26b => ?_)
  refine lv_aload_n hx hb d_Di_packedWord_20 rfl (lv_at hl 0 rfl) ?_
  refine sv_getr (C := "StoryMachine$Dictionary") (T := T_Di) (N := 6) hx hb hts in_Di hown hK hI 18 kC_18 rfl 4 (by decide) (hts _ mw_198) rfl d_Di_packedWord_21 ?_
  refine lv_iload_n hx hb d_Di_packedWord_24 rfl (lv_at hl 1 rfl) ?_
  refine sn_iconst hx hb d_Di_packedWord_25 (by decide) (fun z27 hz27 => ?_)
  refine sn_iadd hx hb d_Di_packedWord_26 (by omega) (by omega) (fun z28 hz28 => ?_)
  refine sv_ialdr hx hb hK hI 24 kC_24 (by omega) (by omega) d_Di_packedWord_27 (fun z29 hz29a hz29b => ?_)
  refine sn_iorT hx hb d_Di_packedWord_28 (fun z30 hz30a hz30b => ?_)
  subst hZ
  exact tz_ret (W.iret (v := z30) hx hb hr (fun t ht hW => ⟨⟨fun v9 hv9 => by cases hv9; exact (⟨z30, rfl, hok, by omega, by omega, by rw [ht]; exact hI.1⟩), fun x9 hx9 => (by cases hx9)⟩, hI.2.F ht⟩) hI.2.2.2 d_Di_packedWord_29)
abbrev q_As_keep (dC : Nat → ClassId) (dI : Nat → Nat → Nat) (cI cJ : ClassId) (a : Nat → Nat) (he dp co li op wd tl lc : Int) (sf lf : Nat → Int32) (x3 : Int32) : Outcome → State → Prop := fun o t => (∀ v, o = .returned v → ((v = none ∧ okC he dp co li op wd tl lc sf lf ∧ sh_I (dC, dI) vcl cI cJ (gsC a he dp co li op wd tl lc sf lf) t.heap))) ∧ (∀ x, o = .threw x → (False))
def rm_As_keep : Room := { frames := 2, cells := 0, slots := 0, locals := 81 }
set_option maxHeartbeats 4000000 in
set_option maxRecDepth 100000 in
theorem c_As_keep (l : Launch) (hfl : l.flags = pinnedFlags ++ [noTraceFlag]) (dC : Nat → ClassId) (dI : Nat → Nat → Nat) (cI cJ : ClassId) (a : Nat → Nat) (sz : Nat) (he dp co li op wd tl lc : Int) (sf lf : Nat → Int32) (x3 : Int32) (hok : okC he dp co li op wd tl lc sf lf) : tz_Met l ⟨"StoryMachine$Aside", "keep", "(LStoryMachine$Memory;LStoryMachine$Routines;I)V"⟩ tw_tbl rm_As_keep (tzP (dC, dI) vcl cI cJ (gsC a he dp co li op wd tl lc sf lf) (adC a) [.ref (a 20), .ref (a 1), .ref (a 3), .int x3] sz) (tq_Q (q_As_keep dC dI cI cJ a he dp co li op wd tl lc sf lf x3) (ga (adC a) sz)) 0 0 0 0 (ga (adC a) sz) := by
  refine tz_ofW (cc := prog_2_method_2_code) (maxL := 4) (ret := none) (by decide) (tx_isM mw_710) ?_
  intro p e s m args below meth c s₁ B hml hv
  obtain ⟨rfl, hsz, hI0, hK, hst0⟩ := hv
  have hx := B.exec
  have hb := B.bytes
  have hr := B.returns
  have hts := atoms_spec (ws := tw_tbl) B.pre
  have hown : s.vm.findClass "StoryMachine$Aside" = some m.cls := findClass_of_methodNamed B.named
  have hlocks := B.notSynchronized
  subst hsz
  have hst := fun (H : Heap) (locs : List Loc) (hS : va_S (ga (adC a) s.heap.size) s.heap H locs) (U : State) (hU : U.heap = H) (hW : s.WarmedH U.vm) => zS_all adC_map hI0 hst0 hS hU hW
  have hAC : ∀ q ∈ adC a, ga (adC a) s.heap.size q := fun q h => Or.inl h
  have hA0 : ∀ q, s.heap.size ≤ q → ga (adC a) s.heap.size q := fun q h => Or.inr h
  have hI : sI (dC, dI) vcl cI cJ (gsC a he dp co li op wd tl lc sf lf) (ga (adC a) s.heap.size) s.heap s.heap [] := ⟨hI0, va_S.rf⟩
  clear hI0 hst0
  have hl := lv_entry ([.ref (a 20), .ref (a 1), .ref (a 3), .int x3]) (n := 4) (Nat.le_of_ble_eq_true rfl)
  rw [lg_entry_eq]
  generalize (lg_sl ([.ref (a 20), .ref (a 1), .ref (a 3), .int x3]) ++ List.replicate (4 - (lg_sl ([.ref (a 20), .ref (a 1), .ref (a 3), .int x3])).length) Slot.unset).toArray = ls at hl ⊢
  have hl : lv_has ls 4 [(0, .ref (a 20)), (1, .ref (a 1)), (2, .ref (a 3)), (3, .int x3)] := hl
  generalize hZ : tz_MQ below (tq_Q (q_As_keep dC dI cI cJ a he dp co li op wd tl lc sf lf x3) (ga (adC a) s.heap.size)) ([.ref (a 20), .ref (a 1), .ref (a 3), .int x3] : List Value).toArray s 0 0 0 0 (ga (adC a) s.heap.size) = Z
  obtain ⟨A, hAe⟩ : ∃ A, A = ga (adC a) s.heap.size := ⟨_, rfl⟩
  rw [← hAe] at hst hAC hA0 hI hZ
  refine sv_start hI (fun H locs hI => ?_)
  obtain ⟨⟨o1, o2⟩, ⟨o3, o4⟩, ⟨o5, o6⟩, ⟨o7, o8⟩, ⟨o9, o10⟩, ⟨o11, o12⟩, ⟨o13, o14⟩, ⟨o15, o16⟩, o17, -⟩ := id hok
  have gx3 := sn_rng x3
  refine lv_aload_n hx hb d_As_keep_0 rfl (lv_at hl 0 rfl) ?_
  refine sv_getr (C := "StoryMachine$Aside") (T := T_As) (N := 4) hx hb hts in_As hown hK hI 20 kC_20 rfl 1 (by decide) (hts _ mw_150) rfl d_As_keep_1 ?_
  refine lv_aload_n hx hb d_As_keep_4 rfl (lv_at hl 1 rfl) ?_
  refine tz_call (A1 := ga (adC a) H.size) (tz_runV (C := "StoryMachine$Memory") (As := [.ref (a 1)]) (rest := []) ⟨hx, hb, hml, hown, hts⟩ (c_Me_copyFrom_26 l hfl dC dI cI cJ a H.size he dp co li op wd tl lc sf lf  hok) (tx_cb (n := 1) hts rfl rfl ⟨Nat.le_of_ble_eq_true rfl, Nat.le_of_ble_eq_true rfl⟩ (tx_code.of (hts _ mw_714)) (hts _ mw_2) (by decide +kernel) (hts _ mw_711)) (hts _ mw_712) (hts _ mw_713) ⟨tz_blind, sv_recv (q0 := 26) hts in_Me hK hI kC_26 rfl, fun U hU hW => ⟨rfl, by rw [hU], by rw [hU]; exact hI.1, va_K.moved hW.alike hK, hst _ _ hI.2 U hU hW⟩⟩ rfl rfl hl.1 rfl (lv_room (Nat.le_of_ble_eq_true rfl)) d_As_keep_5 ⟨Nat.le_of_ble_eq_true rfl, Nat.le_of_ble_eq_true rfl⟩) hI.2 (fun q _ h => ga_sub hAC hA0 hI.2 q h) (ga_sub hAC hA0 hI.2) (fun v t H1 locs1 ht hWt hpost _ _ hS => ?_) (fun x t H1 locs1 ht hWt hpost _ _ hS => (hpost.2 x rfl).elim)
  rcases hpost.1 _ rfl with ⟨hv, c18, hI1⟩
  cases hv
  have hI : sI (dC, dI) vcl cI cJ (gsC a he dp co li op wd tl lc sf lf) A s.heap H1 locs1 := ⟨by rw [← ht]; exact hI1, hS⟩
  clear hpost hI1 hS ht hWt
  revert hI; generalize H1 = H; generalize locs1 = locs; intro hI
  refine lv_aload_n hx hb d_As_keep_8 rfl (lv_at hl 0 rfl) ?_
  refine sv_getr (C := "StoryMachine$Aside") (T := T_As) (N := 4) hx hb hts in_As hown hK hI 20 kC_20 rfl 2 (by decide) (hts _ mw_151) rfl d_As_keep_9 ?_
  refine lv_aload_n hx hb d_As_keep_12 rfl (lv_at hl 2 rfl) ?_
  refine tz_call (A1 := ga (adC a) H.size) (tz_runV (C := "StoryMachine$Routines") (As := [.ref (a 3)]) (rest := []) ⟨hx, hb, hml, hown, hts⟩ (c_Ro_copyFrom_27 l hfl dC dI cI cJ a H.size he dp co li op wd tl lc sf lf  c18) (tx_cb (n := 1) hts rfl rfl ⟨Nat.le_of_ble_eq_true rfl, Nat.le_of_ble_eq_true rfl⟩ (tx_code.of (hts _ mw_721)) (hts _ mw_4) (by decide +kernel) (hts _ mw_718)) (hts _ mw_719) (hts _ mw_720) ⟨tz_blind, sv_recv (q0 := 27) hts in_Ro hK hI kC_27 rfl, fun U hU hW => ⟨rfl, by rw [hU], by rw [hU]; exact hI.1, va_K.moved hW.alike hK, hst _ _ hI.2 U hU hW⟩⟩ rfl rfl hl.1 rfl (lv_room (Nat.le_of_ble_eq_true rfl)) d_As_keep_13 ⟨Nat.le_of_ble_eq_true rfl, Nat.le_of_ble_eq_true rfl⟩) hI.2 (fun q _ h => ga_sub hAC hA0 hI.2 q h) (ga_sub hAC hA0 hI.2) (fun v t H1 locs1 ht hWt hpost _ _ hS => ?_) (fun x t H1 locs1 ht hWt hpost _ _ hS => (hpost.2 x rfl).elim)
  rcases hpost.1 _ rfl with ⟨hv, c19, hI1⟩
  cases hv
  have hI : sI (dC, dI) vcl cI cJ (gsC a he dp co li op wd tl lc sf lf) A s.heap H1 locs1 := ⟨by rw [← ht]; exact hI1, hS⟩
  clear hpost hI1 hS ht hWt
  revert hI; generalize H1 = H; generalize locs1 = locs; intro hI
  refine lv_aload_n hx hb d_As_keep_16 rfl (lv_at hl 0 rfl) ?_
  refine lv_iload_n hx hb d_As_keep_17 rfl (lv_at hl 3 rfl) ?_
  refine sv_put (C := "StoryMachine$Aside") (T := T_As) (N := 4) (ty := .int) hx hb hts in_As t_As tk_As nm_As hown hK (sh_in adC_map hAC) hI 20 kC_20 rfl 3 (by decide) (hts _ mw_152) rfl (by decide +kernel) rfl rfl (Nat.le_of_ble_eq_true rfl) (by omega) (by omega) pC_20_3 d_As_keep_18 (fun H locs hI => ?_)
  refine lv_aload_n hx hb d_As_keep_21 rfl (lv_at hl 0 rfl) ?_
  refine sn_iconst hx hb d_As_keep_22 (by decide) (fun z20 hz20 => ?_)
  refine sv_put (C := "StoryMachine$Aside") (T := T_As) (N := 4) (ty := .boolean) hx hb hts in_As t_As tk_As nm_As hown hK (sh_in adC_map hAC) hI 20 kC_20 rfl 0 (by decide) (hts _ mw_148) rfl (by decide +kernel) (sn_bool (by omega) (by omega)).1 (sn_bool (by omega) (by omega)).2 (Nat.le_of_ble_eq_true rfl) (by omega) (by omega) pC_20_0 d_As_keep_23 (fun H locs hI => ?_)
  subst hZ
  exact tz_ret (W.vret hx hb hr (fun t ht hW => ⟨⟨fun v9 hv9 => by cases hv9; exact (⟨rfl, c19, by rw [ht]; exact hI.1⟩), fun x9 hx9 => (by cases hx9)⟩, hI.2.F ht⟩) hI.2.2.2 d_As_keep_26)
