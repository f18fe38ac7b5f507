abbrev q_Tr_linkTo (dC : Nat → ClassId) (dI : Nat → Nat → Nat) (cI cJ : ClassId) (a : Nat → Nat) (he dp co li op wd tl lc : Int) (sf lf : Nat → Int32) (x1 : Int32) (x2 : Int32) : Outcome → State → Prop := fun o t => (∀ v, o = .returned v → ((∃ (z : Int32), v = some (.int z) ∧ okC he dp co li op wd tl lc sf lf ∧ 19 ≤ z.toInt ∧ z.toInt ≤ 511 ∧ 0 ≤ x1.toInt ∧ x1.toInt ≤ 255 ∧ 1 ≤ x2.toInt ∧ x2.toInt ≤ 20 ∧ sh_I (dC, dI) vcl cI cJ (gsC a he dp co li op wd tl lc sf lf) t.heap))) ∧ (∀ x, o = .threw x → ((ta_Ex "java/lang/IllegalArgumentException" x t ∧ okC he dp co li op wd tl lc sf lf ∧ sh_I (dC, dI) vcl cI cJ (gsC a he dp co li op wd tl lc sf lf) t.heap)))
def rm_Tr_linkTo : Room := { frames := 9, cells := 1, slots := 6, locals := 172 }
set_option maxHeartbeats 4000000 in
set_option maxRecDepth 100000 in
theorem c_Tr_linkTo (l : Launch) (hfl : l.flags = pinnedFlags ++ [noTraceFlag]) (dC : Nat → ClassId) (dI : Nat → Nat → Nat) (cI cJ : ClassId) (a : Nat → Nat) (sz : Nat) (he dp co li op wd tl lc : Int) (sf lf : Nat → Int32) (x1 : Int32) (x2 : Int32) (hok : okC he dp co li op wd tl lc sf lf) : tz_Met l ⟨"StoryMachine$Tree", "linkTo", "(II)I"⟩ tw_tbl rm_Tr_linkTo (tzP (dC, dI) vcl cI cJ (gsC a he dp co li op wd tl lc sf lf) (adC a) [.ref (a 17), .int x1, .int x2] sz) (tq_Q (q_Tr_linkTo dC dI cI cJ a he dp co li op wd tl lc sf lf x1 x2) (ga (adC a) sz)) 0 0 1 6 (ga (adC a) sz) := by
  refine tz_ofW (cc := prog_10_method_10_code) (maxL := 6) (ret := (some .int)) (by decide) (tx_isM mw_777) ?_
  intro p e s m args below meth c s₁ B hml hv
  obtain ⟨rfl, hsz, hI0, hK, hst0⟩ := hv
  have hx := B.exec
  have hb := B.bytes
  have hr := B.returns
  have hts := atoms_spec (ws := tw_tbl) B.pre
  have hown : s.vm.findClass "StoryMachine$Tree" = some m.cls := findClass_of_methodNamed B.named
  have hlocks := B.notSynchronized
  subst hsz
  have hst := fun (H : Heap) (locs : List Loc) (hS : va_S (ga (adC a) s.heap.size) s.heap H locs) (U : State) (hU : U.heap = H) (hW : s.WarmedH U.vm) => zS_all adC_map hI0 hst0 hS hU hW
  have hAC : ∀ q ∈ adC a, ga (adC a) s.heap.size q := fun q h => Or.inl h
  have hA0 : ∀ q, s.heap.size ≤ q → ga (adC a) s.heap.size q := fun q h => Or.inr h
  have hI : sI (dC, dI) vcl cI cJ (gsC a he dp co li op wd tl lc sf lf) (ga (adC a) s.heap.size) s.heap s.heap [] := ⟨hI0, va_S.rf⟩
  clear hI0 hst0
  have hl := lv_entry ([.ref (a 17), .int x1, .int x2]) (n := 6) (Nat.le_of_ble_eq_true rfl)
  rw [lg_entry_eq]
  generalize (lg_sl ([.ref (a 17), .int x1, .int x2]) ++ List.replicate (6 - (lg_sl ([.ref (a 17), .int x1, .int x2])).length) Slot.unset).toArray = ls at hl ⊢
  have hl : lv_has ls 6 [(0, .ref (a 17)), (1, .int x1), (2, .int x2)] := hl
  generalize hZ : tz_MQ below (tq_Q (q_Tr_linkTo dC dI cI cJ a he dp co li op wd tl lc sf lf x1 x2) (ga (adC a) s.heap.size)) ([.ref (a 17), .int x1, .int x2] : List Value).toArray s 0 0 1 6 (ga (adC a) s.heap.size) = Z
  obtain ⟨A, hAe⟩ : ∃ A, A = ga (adC a) s.heap.size := ⟨_, rfl⟩
  rw [← hAe] at hst hAC hA0 hI hZ
  refine sv_start hI (fun H locs hI => ?_)
  obtain ⟨⟨o1, o2⟩, ⟨o3, o4⟩, ⟨o5, o6⟩, ⟨o7, o8⟩, ⟨o9, o10⟩, ⟨o11, o12⟩, ⟨o13, o14⟩, ⟨o15, o16⟩, o17, -⟩ := id hok
  have gx1 := sn_rng x1
  have gx2 := sn_rng x2
  have j12 : ∀ (n : Nat) (H : Heap) (locs : List Loc) (ls : Array Slot) (v12_3 v12_4 : Int32), sI (dC, dI) vcl cI cJ (gsC a he dp co li op wd tl lc sf lf) A s.heap H locs → okC he dp co li op wd tl lc sf lf → 19 ≤ v12_3.toInt → v12_3.toInt ≤ 65726 → 0 ≤ v12_4.toInt → v12_4.toInt ≤ 20 → 1 ≤ x2.toInt → x2.toInt ≤ 20 → lv_has ls 6 [(0, .ref (a 17)), (1, .int x1), (2, .int x2), (3, .int v12_3), (4, .int v12_4)] → 20 - v12_4.toInt < (n : Int) → W p l e (headSpec tw_tbl rm_Tr_linkTo).room s m ([.ref (a 17), .int x1, .int x2] : List Value).toArray below meth c H locs 0 0 Z (F0 m 12 ls []) := by
    intro n
    induction n with
    | zero => intro H locs ls v12_3 v12_4 hI hok g12_0 g12_1 g12_2 g12_3 g12_4 g12_5 hl hme; exfalso; obtain ⟨⟨o18, o19⟩, ⟨o20, o21⟩, ⟨o22, o23⟩, ⟨o24, o25⟩, ⟨o26, o27⟩, ⟨o28, o29⟩, ⟨o30, o31⟩, ⟨o32, o33⟩, o34, -⟩ := id hok; omega
    | succ n ih =>
      intro H locs ls v12_3 v12_4 hI hok g12_0 g12_1 g12_2 g12_3 g12_4 g12_5 hl hme
      obtain ⟨⟨o35, o36⟩, ⟨o37, o38⟩, ⟨o39, o40⟩, ⟨o41, o42⟩, ⟨o43, o44⟩, ⟨o45, o46⟩, ⟨o47, o48⟩, ⟨o49, o50⟩, o51, -⟩ := id hok
      refine lv_iload hx hb d_Tr_linkTo_12 (lv_at hl 4 rfl) ?_
      refine sn_bipush hx hb d_Tr_linkTo_14 (by decide) (fun z52 hz52 => ?_)
      refine sn_icmp_ge (tgt := 52) hx hb d_Tr_linkTo_16 (by decide) (fun b53 => ?_) (fun b53 => ?_)
      · refine W.widen (k := 0) (n := 0) (Nat.le_of_ble_eq_true rfl) (Nat.le_of_ble_eq_true rfl) ?_
        subst hZ
        exact tz_thrown (tth_Tr_IllegalArgumentException hx hb hfl hown hts (hst _ _ hI.2) (by rw [hml]; exact hl.1) d_Tr_linkTo_52 d_Tr_linkTo_55 d_Tr_linkTo_56 d_Tr_linkTo_59 (tx_noH B (hts _ mw_777) _) (Nat.le_of_ble_eq_true rfl) (Nat.le_of_ble_eq_true rfl) (Nat.le_of_ble_eq_true rfl) (Nat.le_of_ble_eq_true rfl) (fun t ce hW hz hk hce hcl hvm => ⟨⟨⟨fun v9 hv9 => (by cases hv9), fun x9 hx9 => by cases hx9; exact (⟨⟨ce, hce, hcl, hvm⟩, hok, sh_kept hI.1 hk⟩)⟩, ta_thrown hI.2 hz hk⟩, _, rfl⟩) hI.2.2.2 hlocks)
      · refine lv_aload_n hx hb d_Tr_linkTo_19 rfl (lv_at hl 0 rfl) ?_
        refine sv_getr (C := "StoryMachine$Tree") (T := T_Tr) (N := 1) hx hb hts in_Tr hown hK hI 17 kC_17 rfl 0 (by decide) (hts _ mw_181) rfl d_Tr_linkTo_20 ?_
        refine lv_iload_n hx hb d_Tr_linkTo_23 rfl (lv_at hl 3 rfl) ?_
        refine tz_call (A1 := ga (adC a) H.size) (tz_runV (C := "StoryMachine$Memory") (As := [.int v12_3]) (rest := []) ⟨hx, hb, hml, hown, hts⟩ (c_Me_byteAt l hfl dC dI cI cJ a H.size he dp co li op wd tl lc sf lf v12_3 hok) (tx_cb (n := 1) hts rfl rfl ⟨Nat.le_of_ble_eq_true rfl, Nat.le_of_ble_eq_true rfl⟩ (tx_code.of (hts _ mw_511)) (hts _ mw_2) (by decide +kernel) (hts _ mw_748)) (hts _ mw_509) (hts _ mw_510) ⟨tz_blind, sv_recv (q0 := 1) hts in_Me hK hI kC_1 rfl, fun U hU hW => ⟨rfl, by rw [hU], by rw [hU]; exact hI.1, va_K.moved hW.alike hK, hst _ _ hI.2 U hU hW⟩⟩ rfl rfl hl.1 rfl (lv_room (Nat.le_of_ble_eq_true rfl)) d_Tr_linkTo_24 ⟨Nat.le_of_ble_eq_true rfl, Nat.le_of_ble_eq_true rfl⟩) hI.2 (fun q _ h => ga_sub hAC hA0 hI.2 q h) (ga_sub hAC hA0 hI.2) (fun v t H1 locs1 ht hWt hpost _ _ hS => ?_) (fun x t H1 locs1 ht hWt hpost _ _ hS => ?_)
        · rcases hpost.1 _ rfl with ⟨z54, hv, c55, c55_0, c55_1, c55_2, c55_3, hI1⟩
          cases hv
          have hI : sI (dC, dI) vcl cI cJ (gsC a he dp co li op wd tl lc sf lf) A s.heap H1 locs1 := ⟨by rw [← ht]; exact hI1, hS⟩
          clear hpost hI1 hS ht hWt
          revert hI; generalize H1 = H; generalize locs1 = locs; intro hI
          refine lv_istore (lv' := [(5, .int z54), (0, .ref (a 17)), (1, .int x1), (2, .int x2), (3, .int v12_3), (4, .int v12_4)]) hx hb d_Tr_linkTo_27 hl (by decide) rfl (fun ls hl => ?_)
          refine lv_iload hx hb d_Tr_linkTo_29 (lv_at hl 0 rfl) ?_
          refine lv_iload_n hx hb d_Tr_linkTo_31 rfl (lv_at hl 2 rfl) ?_
          refine sn_icmp_ne (tgt := 37) hx hb d_Tr_linkTo_32 (by decide) (fun b56 => ?_) (fun b56 => ?_)
          · refine lv_aload_n hx hb d_Tr_linkTo_37 rfl (lv_at hl 1 rfl) ?_
            refine lv_iload hx hb d_Tr_linkTo_38 (lv_at hl 0 rfl) ?_
            refine tz_call (A1 := ga (adC a) H.size) (tz_runV (C := "StoryMachine$Tree") (As := [.int z54]) (rest := []) ⟨hx, hb, hml, hown, hts⟩ (c_Tr_placeOf l hfl dC dI cI cJ a H.size he dp co li op wd tl lc sf lf z54 c55) (tx_cb (n := 1) hts rfl rfl ⟨Nat.le_of_ble_eq_true rfl, Nat.le_of_ble_eq_true rfl⟩ (tx_code.of (hts _ mw_744)) (hts _ mw_9) (by decide +kernel) (hts _ mw_741)) (hts _ mw_743) (hts _ ms_Tr_placeOf) ⟨tz_blind, sv_recv (q0 := 17) hts in_Tr hK hI kC_17 rfl, fun U hU hW => ⟨rfl, by rw [hU], by rw [hU]; exact hI.1, va_K.moved hW.alike hK, hst _ _ hI.2 U hU hW⟩⟩ rfl rfl hl.1 rfl (lv_room (Nat.le_of_ble_eq_true rfl)) d_Tr_linkTo_40 ⟨Nat.le_of_ble_eq_true rfl, Nat.le_of_ble_eq_true rfl⟩) hI.2 (fun q _ h => ga_sub hAC hA0 hI.2 q h) (ga_sub hAC hA0 hI.2) (fun v t H1 locs1 ht hWt hpost _ _ hS => ?_) (fun x t H1 locs1 ht hWt hpost _ _ hS => ?_)
            · rcases hpost.1 _ rfl with ⟨z57, hv, c58, c58_0, c58_1, c58_2, c58_3, hI1⟩
              cases hv
              have hI : sI (dC, dI) vcl cI cJ (gsC a he dp co li op wd tl lc sf lf) A s.heap H1 locs1 := ⟨by rw [← ht]; exact hI1, hS⟩
              clear hpost hI1 hS ht hWt
              revert hI; generalize H1 = H; generalize locs1 = locs; intro hI
              refine sn_iconst hx hb d_Tr_linkTo_43 (by decide) (fun z59 hz59 => ?_)
              refine sn_iadd hx hb d_Tr_linkTo_44 (by omega) (by omega) (fun z60 hz60 => ?_)
              refine lv_istore_n (lv' := [(3, .int z60), (5, .int z54), (0, .ref (a 17)), (1, .int x1), (2, .int x2), (4, .int v12_4)]) hx hb d_Tr_linkTo_45 rfl hl (by decide) rfl (fun ls hl => ?_)
              refine sn_iinc (k := 5) hx hb d_Tr_linkTo_46 hl rfl (by decide) (by decide) (by omega) (by omega) (fun ls z61 hz61 hl => ?_)
              have hl : lv_has ls 6 [(4, .int z61), (3, .int z60), (5, .int z54), (0, .ref (a 17)), (1, .int x1), (2, .int x2)] := hl
              refine lv_goto (tgt := 12) hx hb d_Tr_linkTo_49 (by decide) ?_
              exact ih _ _ _ z60 z61 hI c58 (by omega) (by omega) (by omega) (by omega) (by omega) (by omega) (lv_sub hl [3, 4, 5, 1, 0] rfl) (by omega)
            · rcases hpost.2 _ rfl with ⟨hex, c62, hI1⟩
              have hI : sI (dC, dI) vcl cI cJ (gsC a he dp co li op wd tl lc sf lf) A s.heap H1 locs1 := ⟨by rw [← ht]; exact hI1, hS⟩
              refine tz_widen (k := 1) (n := 6) (Nat.le_of_ble_eq_true rfl) (Nat.le_of_ble_eq_true rfl) ?_
              subst hZ
              exact tz_leave (tx_noH B (hts _ mw_777) _) (fun t9 ht9 hW9 => ⟨⟨fun v9 hv9 => (by cases hv9), fun x9 hx9 => by cases hx9; exact (⟨ta_exm hex ht ht9 hWt hW9, c62, by rw [ht9]; exact hI.1⟩)⟩, hI.2.F ht9⟩) hI.2.2.2 hlocks
          · refine lv_iload_n hx hb d_Tr_linkTo_35 rfl (lv_at hl 4 rfl) ?_
            subst hZ
            exact tz_ret (W.iret (v := v12_3) hx hb hr (fun t ht hW => ⟨⟨fun v9 hv9 => by cases hv9; exact (⟨v12_3, rfl, c55, by omega, by omega, by omega, by omega, by omega, by omega, by rw [ht]; exact hI.1⟩), fun x9 hx9 => (by cases hx9)⟩, hI.2.F ht⟩) hI.2.2.2 d_Tr_linkTo_36)
        · rcases hpost.2 _ rfl with ⟨hex, c63, hI1⟩
          have hI : sI (dC, dI) vcl cI cJ (gsC a he dp co li op wd tl lc sf lf) A s.heap H1 locs1 := ⟨by rw [← ht]; exact hI1, hS⟩
          refine tz_widen (k := 1) (n := 6) (Nat.le_of_ble_eq_true rfl) (Nat.le_of_ble_eq_true rfl) ?_
          subst hZ
          exact tz_leave (tx_noH B (hts _ mw_777) _) (fun t9 ht9 hW9 => ⟨⟨fun v9 hv9 => (by cases hv9), fun x9 hx9 => by cases hx9; exact (⟨ta_exm hex ht ht9 hWt hW9, c63, by rw [ht9]; exact hI.1⟩)⟩, hI.2.F ht9⟩) hI.2.2.2 hlocks
  refine lv_aload_n hx hb d_Tr_linkTo_0 rfl (lv_at hl 0 rfl) ?_
  refine lv_iload_n hx hb d_Tr_linkTo_1 rfl (lv_at hl 2 rfl) ?_
  refine tz_call (A1 := ga (adC a) H.size) (tz_runV (C := "StoryMachine$Tree") (As := [.int x2]) (rest := []) ⟨hx, hb, hml, hown, hts⟩ (c_Tr_placeOf l hfl dC dI cI cJ a H.size he dp co li op wd tl lc sf lf x2 hok) (tx_cb (n := 1) hts rfl rfl ⟨Nat.le_of_ble_eq_true rfl, Nat.le_of_ble_eq_true rfl⟩ (tx_code.of (hts _ mw_744)) (hts _ mw_9) (by decide +kernel) (hts _ mw_741)) (hts _ mw_743) (hts _ ms_Tr_placeOf) ⟨tz_blind, sv_recv (q0 := 17) hts in_Tr hK hI kC_17 rfl, fun U hU hW => ⟨rfl, by rw [hU], by rw [hU]; exact hI.1, va_K.moved hW.alike hK, hst _ _ hI.2 U hU hW⟩⟩ rfl rfl hl.1 rfl (lv_room (Nat.le_of_ble_eq_true rfl)) d_Tr_linkTo_2 ⟨Nat.le_of_ble_eq_true rfl, Nat.le_of_ble_eq_true rfl⟩) hI.2 (fun q _ h => ga_sub hAC hA0 hI.2 q h) (ga_sub hAC hA0 hI.2) (fun v t H1 locs1 ht hWt hpost _ _ hS => ?_) (fun x t H1 locs1 ht hWt hpost _ _ hS => ?_)
  · rcases hpost.1 _ rfl with ⟨z64, hv, c65, c65_0, c65_1, c65_2, c65_3, hI1⟩
    cases hv
    have hI : sI (dC, dI) vcl cI cJ (gsC a he dp co li op wd tl lc sf lf) A s.heap H1 locs1 := ⟨by rw [← ht]; exact hI1, hS⟩
    clear hpost hI1 hS ht hWt
    revert hI; generalize H1 = H; generalize locs1 = locs; intro hI
    refine sn_bipush hx hb d_Tr_linkTo_5 (by decide) (fun z66 hz66 => ?_)
    refine sn_iadd hx hb d_Tr_linkTo_7 (by omega) (by omega) (fun z67 hz67 => ?_)
    refine lv_istore_n (lv' := [(3, .int z67), (0, .ref (a 17)), (1, .int x1), (2, .int x2)]) hx hb d_Tr_linkTo_8 rfl hl (by decide) rfl (fun ls hl => ?_)
    refine sn_iconst hx hb d_Tr_linkTo_9 (by decide) (fun z68 hz68 => ?_)
    refine lv_istore (lv' := [(4, .int z68), (3, .int z67), (0, .ref (a 17)), (1, .int x1), (2, .int x2)]) hx hb d_Tr_linkTo_10 hl (by decide) rfl (fun ls hl => ?_)
    exact j12 21 _ _ _ z67 z68 hI c65 (by omega) (by omega) (by omega) (by omega) (by omega) (by omega) (lv_sub hl [2, 3, 4, 1, 0] rfl) (by omega)
  · rcases hpost.2 _ rfl with ⟨hex, c69, hI1⟩
    have hI : sI (dC, dI) vcl cI cJ (gsC a he dp co li op wd tl lc sf lf) A s.heap H1 locs1 := ⟨by rw [← ht]; exact hI1, hS⟩
    refine tz_widen (k := 1) (n := 6) (Nat.le_of_ble_eq_true rfl) (Nat.le_of_ble_eq_true rfl) ?_
    subst hZ
    exact tz_leave (tx_noH B (hts _ mw_777) _) (fun t9 ht9 hW9 => ⟨⟨fun v9 hv9 => (by cases hv9), fun x9 hx9 => by cases hx9; exact (⟨ta_exm hex ht ht9 hWt hW9, c69, by rw [ht9]; exact hI.1⟩)⟩, hI.2.F ht9⟩) hI.2.2.2 hlocks
abbrev q_Tr_takeFromParent (dC : Nat → ClassId) (dI : Nat → Nat → Nat) (cI cJ : ClassId) (a : Nat → Nat) (he dp co li op wd tl lc : Int) (sf lf : Nat → Int32) (x1 : Int32) : Outcome → State → Prop := fun o t => (∀ v, o = .returned v → ((v = none ∧ okC he dp co li op wd tl lc sf lf ∧ 1 ≤ x1.toInt ∧ x1.toInt ≤ 20 ∧ sh_I (dC, dI) vcl cI cJ (gsC a he dp co li op wd tl lc sf lf) t.heap))) ∧ (∀ x, o = .threw x → ((ta_Ex "java/lang/IllegalArgumentException" x t ∧ okC he dp co li op wd tl lc sf lf ∧ sh_I (dC, dI) vcl cI cJ (gsC a he dp co li op wd tl lc sf lf) t.heap)))
def rm_Tr_takeFromParent : Room := { frames := 10, cells := 1, slots := 6, locals := 197 }
set_option maxHeartbeats 4000000 in
set_option maxRecDepth 100000 in
theorem c_Tr_takeFromParent (l : Launch) (hfl : l.flags = pinnedFlags ++ [noTraceFlag]) (dC : Nat → ClassId) (dI : Nat → Nat → Nat) (cI cJ : ClassId) (a : Nat → Nat) (sz : Nat) (he dp co li op wd tl lc : Int) (sf lf : Nat → Int32) (x1 : Int32) (hok : okC he dp co li op wd tl lc sf lf) : tz_Met l ⟨"StoryMachine$Tree", "takeFromParent", "(I)V"⟩ tw_tbl rm_Tr_takeFromParent (tzP (dC, dI) vcl cI cJ (gsC a he dp co li op wd tl lc sf lf) (adC a) [.ref (a 17), .int x1] sz) (tq_Q (q_Tr_takeFromParent dC dI cI cJ a he dp co li op wd tl lc sf lf x1) (ga (adC a) sz)) 0 0 1 6 (ga (adC a) sz) := by
  refine tz_ofW (cc := prog_10_method_9_code) (maxL := 5) (ret := none) (by decide) (tx_isM mw_773) ?_
  intro p e s m args below meth c s₁ B hml hv
  obtain ⟨rfl, hsz, hI0, hK, hst0⟩ := hv
  have hx := B.exec
  have hb := B.bytes
  have hr := B.returns
  have hts := atoms_spec (ws := tw_tbl) B.pre
  have hown : s.vm.findClass "StoryMachine$Tree" = some m.cls := findClass_of_methodNamed B.named
  have hlocks := B.notSynchronized
  subst hsz
  have hst := fun (H : Heap) (locs : List Loc) (hS : va_S (ga (adC a) s.heap.size) s.heap H locs) (U : State) (hU : U.heap = H) (hW : s.WarmedH U.vm) => zS_all adC_map hI0 hst0 hS hU hW
  have hAC : ∀ q ∈ adC a, ga (adC a) s.heap.size q := fun q h => Or.inl h
  have hA0 : ∀ q, s.heap.size ≤ q → ga (adC a) s.heap.size q := fun q h => Or.inr h
  have hI : sI (dC, dI) vcl cI cJ (gsC a he dp co li op wd tl lc sf lf) (ga (adC a) s.heap.size) s.heap s.heap [] := ⟨hI0, va_S.rf⟩
  clear hI0 hst0
  have hl := lv_entry ([.ref (a 17), .int x1]) (n := 5) (Nat.le_of_ble_eq_true rfl)
  rw [lg_entry_eq]
  generalize (lg_sl ([.ref (a 17), .int x1]) ++ List.replicate (5 - (lg_sl ([.ref (a 17), .int x1])).length) Slot.unset).toArray = ls at hl ⊢
  have hl : lv_has ls 5 [(0, .ref (a 17)), (1, .int x1)] := hl
  generalize hZ : tz_MQ below (tq_Q (q_Tr_takeFromParent dC dI cI cJ a he dp co li op wd tl lc sf lf x1) (ga (adC a) s.heap.size)) ([.ref (a 17), .int x1] : List Value).toArray s 0 0 1 6 (ga (adC a) s.heap.size) = Z
  obtain ⟨A, hAe⟩ : ∃ A, A = ga (adC a) s.heap.size := ⟨_, rfl⟩
  rw [← hAe] at hst hAC hA0 hI hZ
  refine sv_start hI (fun H locs hI => ?_)
  obtain ⟨⟨o1, o2⟩, ⟨o3, o4⟩, ⟨o5, o6⟩, ⟨o7, o8⟩, ⟨o9, o10⟩, ⟨o11, o12⟩, ⟨o13, o14⟩, ⟨o15, o16⟩, o17, -⟩ := id hok
  have gx1 := sn_rng x1
  refine lv_aload_n hx hb d_Tr_takeFromParent_0 rfl (lv_at hl 0 rfl) ?_
  refine lv_iload_n hx hb d_Tr_takeFromParent_1 rfl (lv_at hl 1 rfl) ?_
  refine tz_call (A1 := ga (adC a) H.size) (tz_runV (C := "StoryMachine$Tree") (As := [.int x1]) (rest := []) ⟨hx, hb, hml, hown, hts⟩ (c_Tr_placeOf l hfl dC dI cI cJ a H.size he dp co li op wd tl lc sf lf x1 hok) (tx_cb (n := 1) hts rfl rfl ⟨Nat.le_of_ble_eq_true rfl, Nat.le_of_ble_eq_true rfl⟩ (tx_code.of (hts _ mw_744)) (hts _ mw_9) (by decide +kernel) (hts _ mw_741)) (hts _ mw_743) (hts _ ms_Tr_placeOf) ⟨tz_blind, sv_recv (q0 := 17) hts in_Tr hK hI kC_17 rfl, fun U hU hW => ⟨rfl, by rw [hU], by rw [hU]; exact hI.1, va_K.moved hW.alike hK, hst _ _ hI.2 U hU hW⟩⟩ rfl rfl hl.1 rfl (lv_room (Nat.le_of_ble_eq_true rfl)) d_Tr_takeFromParent_2 ⟨Nat.le_of_ble_eq_true rfl, Nat.le_of_ble_eq_true rfl⟩) hI.2 (fun q _ h => ga_sub hAC hA0 hI.2 q h) (ga_sub hAC hA0 hI.2) (fun v t H1 locs1 ht hWt hpost _ _ hS => ?_) (fun x t H1 locs1 ht hWt hpost _ _ hS => ?_)
  · rcases hpost.1 _ rfl with ⟨z18, hv, c19, c19_0, c19_1, c19_2, c19_3, hI1⟩
    cases hv
    have hI : sI (dC, dI) vcl cI cJ (gsC a he dp co li op wd tl lc sf lf) A s.heap H1 locs1 := ⟨by rw [← ht]; exact hI1, hS⟩
    clear hpost hI1 hS ht hWt
    revert hI; generalize H1 = H; generalize locs1 = locs; intro hI
    refine lv_istore_n (lv' := [(2, .int z18), (0, .ref (a 17)), (1, .int x1)]) hx hb d_Tr_takeFromParent_5 rfl hl (by decide) rfl (fun ls hl => ?_)
    refine lv_aload_n hx hb d_Tr_takeFromParent_6 rfl (lv_at hl 1 rfl) ?_
    refine sv_getr (C := "StoryMachine$Tree") (T := T_Tr) (N := 1) hx hb hts in_Tr hown hK hI 17 kC_17 rfl 0 (by decide) (hts _ mw_181) rfl d_Tr_takeFromParent_7 ?_
    refine lv_iload_n hx hb d_Tr_takeFromParent_10 rfl (lv_at hl 0 rfl) ?_
    refine sn_iconst hx hb d_Tr_takeFromParent_11 (by decide) (fun z20 hz20 => ?_)
    refine sn_iadd hx hb d_Tr_takeFromParent_12 (by omega) (by omega) (fun z21 hz21 => ?_)
    refine tz_call (A1 := ga (adC a) H.size) (tz_runV (C := "StoryMachine$Memory") (As := [.int z21]) (rest := []) ⟨hx, hb, hml, hown, hts⟩ (c_Me_byteAt l hfl dC dI cI cJ a H.size he dp co li op wd tl lc sf lf z21 c19) (tx_cb (n := 1) hts rfl rfl ⟨Nat.le_of_ble_eq_true rfl, Nat.le_of_ble_eq_true rfl⟩ (tx_code.of (hts _ mw_511)) (hts _ mw_2) (by decide +kernel) (hts _ mw_748)) (hts _ mw_509) (hts _ mw_510) ⟨tz_blind, sv_recv (q0 := 1) hts in_Me hK hI kC_1 rfl, fun U hU hW => ⟨rfl, by rw [hU], by rw [hU]; exact hI.1, va_K.moved hW.alike hK, hst _ _ hI.2 U hU hW⟩⟩ rfl rfl hl.1 rfl (lv_room (Nat.le_of_ble_eq_true rfl)) d_Tr_takeFromParent_13 ⟨Nat.le_of_ble_eq_true rfl, Nat.le_of_ble_eq_true rfl⟩) hI.2 (fun q _ h => ga_sub hAC hA0 hI.2 q h) (ga_sub hAC hA0 hI.2) (fun v t H1 locs1 ht hWt hpost _ _ hS => ?_) (fun x t H1 locs1 ht hWt hpost _ _ hS => ?_)
    · rcases hpost.1 _ rfl with ⟨z22, hv, c23, c23_0, c23_1, c23_2, c23_3, hI1⟩
      cases hv
      have hI : sI (dC, dI) vcl cI cJ (gsC a he dp co li op wd tl lc sf lf) A s.heap H1 locs1 := ⟨by rw [← ht]; exact hI1, hS⟩
      clear hpost hI1 hS ht hWt
      revert hI; generalize H1 = H; generalize locs1 = locs; intro hI
      refine lv_istore_n (lv' := [(3, .int z22), (2, .int z18), (0, .ref (a 17)), (1, .int x1)]) hx hb d_Tr_takeFromParent_16 rfl hl (by decide) rfl (fun ls hl => ?_)
      refine lv_iload_n hx hb d_Tr_takeFromParent_17 rfl (lv_at hl 0 rfl) ?_
      refine sn_if_ne (tgt := 22) hx hb d_Tr_takeFromParent_18 (by decide) (fun b24 => ?_) (fun b24 => ?_)
      · refine lv_aload_n hx hb d_Tr_takeFromParent_22 rfl (lv_at hl 2 rfl) ?_
        refine sv_getr (C := "StoryMachine$Tree") (T := T_Tr) (N := 1) hx hb hts in_Tr hown hK hI 17 kC_17 rfl 0 (by decide) (hts _ mw_181) rfl d_Tr_takeFromParent_23 ?_
        refine lv_iload_n hx hb d_Tr_takeFromParent_26 rfl (lv_at hl 1 rfl) ?_
        refine sn_iconst hx hb d_Tr_takeFromParent_27 (by decide) (fun z25 hz25 => ?_)
        refine sn_iadd hx hb d_Tr_takeFromParent_28 (by omega) (by omega) (fun z26 hz26 => ?_)
        refine tz_call (A1 := ga (adC a) H.size) (tz_runV (C := "StoryMachine$Memory") (As := [.int z26]) (rest := []) ⟨hx, hb, hml, hown, hts⟩ (c_Me_byteAt l hfl dC dI cI cJ a H.size he dp co li op wd tl lc sf lf z26 c23) (tx_cb (n := 1) hts rfl rfl ⟨Nat.le_of_ble_eq_true rfl, Nat.le_of_ble_eq_true rfl⟩ (tx_code.of (hts _ mw_511)) (hts _ mw_2) (by decide +kernel) (hts _ mw_748)) (hts _ mw_509) (hts _ mw_510) ⟨tz_blind, sv_recv (q0 := 1) hts in_Me hK hI kC_1 rfl, fun U hU hW => ⟨rfl, by rw [hU], by rw [hU]; exact hI.1, va_K.moved hW.alike hK, hst _ _ hI.2 U hU hW⟩⟩ rfl rfl hl.1 rfl (lv_room (Nat.le_of_ble_eq_true rfl)) d_Tr_takeFromParent_29 ⟨Nat.le_of_ble_eq_true rfl, Nat.le_of_ble_eq_true rfl⟩) hI.2 (fun q _ h => ga_sub hAC hA0 hI.2 q h) (ga_sub hAC hA0 hI.2) (fun v t H1 locs1 ht hWt hpost _ _ hS => ?_) (fun x t H1 locs1 ht hWt hpost _ _ hS => ?_)
        · rcases hpost.1 _ rfl with ⟨z27, hv, c28, c28_0, c28_1, c28_2, c28_3, hI1⟩
          cases hv
          have hI : sI (dC, dI) vcl cI cJ (gsC a he dp co li op wd tl lc sf lf) A s.heap H1 locs1 := ⟨by rw [← ht]; exact hI1, hS⟩
          clear hpost hI1 hS ht hWt
          revert hI; generalize H1 = H; generalize locs1 = locs; intro hI
          refine lv_istore (lv' := [(4, .int z27), (3, .int z22), (2, .int z18), (0, .ref (a 17)), (1, .int x1)]) hx hb d_Tr_takeFromParent_32 hl (by decide) rfl (fun ls hl => ?_)
          refine lv_aload_n hx hb d_Tr_takeFromParent_34 rfl (lv_at hl 3 rfl) ?_
          refine sv_getr (C := "StoryMachine$Tree") (T := T_Tr) (N := 1) hx hb hts in_Tr hown hK hI 17 kC_17 rfl 0 (by decide) (hts _ mw_181) rfl d_Tr_takeFromParent_35 ?_
          refine lv_aload_n hx hb d_Tr_takeFromParent_38 rfl (lv_at hl 3 rfl) ?_
          refine lv_iload_n hx hb d_Tr_takeFromParent_39 rfl (lv_at hl 4 rfl) ?_
          refine lv_iload_n hx hb d_Tr_takeFromParent_40 rfl (lv_at hl 1 rfl) ?_
          refine tz_call (A1 := ga (adC a) H.size) (tz_runV (C := "StoryMachine$Tree") (As := [.int x1, .int z22]) (rest := [.ref (a 1)]) ⟨hx, hb, hml, hown, hts⟩ (c_Tr_linkTo l hfl dC dI cI cJ a H.size he dp co li op wd tl lc sf lf x1 z22 c28) (tx_cb (n := 2) hts rfl rfl ⟨Nat.le_of_ble_eq_true rfl, Nat.le_of_ble_eq_true rfl⟩ (tx_code.of (hts _ mw_777)) (hts _ mw_9) (by decide +kernel) (hts _ mw_774)) (hts _ mw_776) (hts _ ms_Tr_linkTo) ⟨tz_blind, sv_recv (q0 := 17) hts in_Tr hK hI kC_17 rfl, fun U hU hW => ⟨rfl, by rw [hU], by rw [hU]; exact hI.1, va_K.moved hW.alike hK, hst _ _ hI.2 U hU hW⟩⟩ rfl rfl hl.1 rfl (lv_room (Nat.le_of_ble_eq_true rfl)) d_Tr_takeFromParent_41 ⟨Nat.le_of_ble_eq_true rfl, Nat.le_of_ble_eq_true rfl⟩) hI.2 (fun q _ h => ga_sub hAC hA0 hI.2 q h) (ga_sub hAC hA0 hI.2) (fun v t H1 locs1 ht hWt hpost _ _ hS => ?_) (fun x t H1 locs1 ht hWt hpost _ _ hS => ?_)
          · rcases hpost.1 _ rfl with ⟨z29, hv, c30, c30_0, c30_1, c30_2, c30_3, c30_4, c30_5, hI1⟩
            cases hv
            have hI : sI (dC, dI) vcl cI cJ (gsC a he dp co li op wd tl lc sf lf) A s.heap H1 locs1 := ⟨by rw [← ht]; exact hI1, hS⟩
            clear hpost hI1 hS ht hWt
            revert hI; generalize H1 = H; generalize locs1 = locs; intro hI
            refine lv_iload hx hb d_Tr_takeFromParent_44 (lv_at hl 0 rfl) ?_
            refine tz_call (A1 := ga (adC a) H.size) (tz_runV (C := "StoryMachine$Memory") (As := [.int z29, .int z27]) (rest := []) ⟨hx, hb, hml, hown, hts⟩ (c_Me_writeByte l hfl dC dI cI cJ a H.size he dp co li op wd tl lc sf lf z29 z27 c30) (tx_cb (n := 2) hts rfl rfl ⟨Nat.le_of_ble_eq_true rfl, Nat.le_of_ble_eq_true rfl⟩ (tx_code.of (hts _ mw_781)) (hts _ mw_2) (by decide +kernel) (hts _ mw_778)) (hts _ mw_779) (hts _ mw_780) ⟨tz_blind, sv_recv (q0 := 1) hts in_Me hK hI kC_1 rfl, fun U hU hW => ⟨rfl, by rw [hU], by rw [hU]; exact hI.1, va_K.moved hW.alike hK, hst _ _ hI.2 U hU hW⟩⟩ rfl rfl hl.1 rfl (lv_room (Nat.le_of_ble_eq_true rfl)) d_Tr_takeFromParent_46 ⟨Nat.le_of_ble_eq_true rfl, Nat.le_of_ble_eq_true rfl⟩) hI.2 (fun q _ h => ga_sub hAC hA0 hI.2 q h) (ga_sub hAC hA0 hI.2) (fun v t H1 locs1 ht hWt hpost _ _ hS => ?_) (fun x t H1 locs1 ht hWt hpost _ _ hS => ?_)
            · rcases hpost.1 _ rfl with ⟨hv, c31, c31_0, c31_1, hI1⟩
              cases hv
              have hI : sI (dC, dI) vcl cI cJ (gsC a he dp co li op wd tl lc sf lf) A s.heap H1 locs1 := ⟨by rw [← ht]; exact hI1, hS⟩
              clear hpost hI1 hS ht hWt
              revert hI; generalize H1 = H; generalize locs1 = locs; intro hI
              refine lv_aload_n hx hb d_Tr_takeFromParent_49 rfl (lv_at hl 3 rfl) ?_
              refine sv_getr (C := "StoryMachine$Tree") (T := T_Tr) (N := 1) hx hb hts in_Tr hown hK hI 17 kC_17 rfl 0 (by decide) (hts _ mw_181) rfl d_Tr_takeFromParent_50 ?_
              refine lv_iload_n hx hb d_Tr_takeFromParent_53 rfl (lv_at hl 2 rfl) ?_
              refine sn_iconst hx hb d_Tr_takeFromParent_54 (by decide) (fun z32 hz32 => ?_)
              refine sn_iadd hx hb d_Tr_takeFromParent_55 (by omega) (by omega) (fun z33 hz33 => ?_)
              refine sn_iconst hx hb d_Tr_takeFromParent_56 (by decide) (fun z34 hz34 => ?_)
              refine tz_call (A1 := ga (adC a) H.size) (tz_runV (C := "StoryMachine$Memory") (As := [.int z33, .int z34]) (rest := []) ⟨hx, hb, hml, hown, hts⟩ (c_Me_writeByte l hfl dC dI cI cJ a H.size he dp co li op wd tl lc sf lf z33 z34 c31) (tx_cb (n := 2) hts rfl rfl ⟨Nat.le_of_ble_eq_true rfl, Nat.le_of_ble_eq_true rfl⟩ (tx_code.of (hts _ mw_781)) (hts _ mw_2) (by decide +kernel) (hts _ mw_778)) (hts _ mw_779) (hts _ mw_780) ⟨tz_blind, sv_recv (q0 := 1) hts in_Me hK hI kC_1 rfl, fun U hU hW => ⟨rfl, by rw [hU], by rw [hU]; exact hI.1, va_K.moved hW.alike hK, hst _ _ hI.2 U hU hW⟩⟩ rfl rfl hl.1 rfl (lv_room (Nat.le_of_ble_eq_true rfl)) d_Tr_takeFromParent_57 ⟨Nat.le_of_ble_eq_true rfl, Nat.le_of_ble_eq_true rfl⟩) hI.2 (fun q _ h => ga_sub hAC hA0 hI.2 q h) (ga_sub hAC hA0 hI.2) (fun v t H1 locs1 ht hWt hpost _ _ hS => ?_) (fun x t H1 locs1 ht hWt hpost _ _ hS => ?_)
              · rcases hpost.1 _ rfl with ⟨hv, c35, c35_0, c35_1, hI1⟩
                cases hv
                have hI : sI (dC, dI) vcl cI cJ (gsC a he dp co li op wd tl lc sf lf) A s.heap H1 locs1 := ⟨by rw [← ht]; exact hI1, hS⟩
                clear hpost hI1 hS ht hWt
                revert hI; generalize H1 = H; generalize locs1 = locs; intro hI
                refine lv_aload_n hx hb d_Tr_takeFromParent_60 rfl (lv_at hl 3 rfl) ?_
                refine sv_getr (C := "StoryMachine$Tree") (T := T_Tr) (N := 1) hx hb hts in_Tr hown hK hI 17 kC_17 rfl 0 (by decide) (hts _ mw_181) rfl d_Tr_takeFromParent_61 ?_
                refine lv_iload_n hx hb d_Tr_takeFromParent_64 rfl (lv_at hl 2 rfl) ?_
                refine sn_iconst hx hb d_Tr_takeFromParent_65 (by decide) (fun z36 hz36 => ?_)
                refine sn_iadd hx hb d_Tr_takeFromParent_66 (by omega) (by omega) (fun z37 hz37 => ?_)
                refine sn_iconst hx hb d_Tr_takeFromParent_67 (by decide) (fun z38 hz38 => ?_)
                refine tz_call (A1 := ga (adC a) H.size) (tz_runV (C := "StoryMachine$Memory") (As := [.int z37, .int z38]) (rest := []) ⟨hx, hb, hml, hown, hts⟩ (c_Me_writeByte l hfl dC dI cI cJ a H.size he dp co li op wd tl lc sf lf z37 z38 c35) (tx_cb (n := 2) hts rfl rfl ⟨Nat.le_of_ble_eq_true rfl, Nat.le_of_ble_eq_true rfl⟩ (tx_code.of (hts _ mw_781)) (hts _ mw_2) (by decide +kernel) (hts _ mw_778)) (hts _ mw_779) (hts _ mw_780) ⟨tz_blind, sv_recv (q0 := 1) hts in_Me hK hI kC_1 rfl, fun U hU hW => ⟨rfl, by rw [hU], by rw [hU]; exact hI.1, va_K.moved hW.alike hK, hst _ _ hI.2 U hU hW⟩⟩ rfl rfl hl.1 rfl (lv_room (Nat.le_of_ble_eq_true rfl)) d_Tr_takeFromParent_68 ⟨Nat.le_of_ble_eq_true rfl, Nat.le_of_ble_eq_true rfl⟩) hI.2 (fun q _ h => ga_sub hAC hA0 hI.2 q h) (ga_sub hAC hA0 hI.2) (fun v t H1 locs1 ht hWt hpost _ _ hS => ?_) (fun x t H1 locs1 ht hWt hpost _ _ hS => ?_)
                · rcases hpost.1 _ rfl with ⟨hv, c39, c39_0, c39_1, hI1⟩
                  cases hv
                  have hI : sI (dC, dI) vcl cI cJ (gsC a he dp co li op wd tl lc sf lf) A s.heap H1 locs1 := ⟨by rw [← ht]; exact hI1, hS⟩
                  clear hpost hI1 hS ht hWt
                  revert hI; generalize H1 = H; generalize locs1 = locs; intro hI
                  subst hZ
                  exact tz_ret (W.vret hx hb hr (fun t ht hW => ⟨⟨fun v9 hv9 => by cases hv9; exact (⟨rfl, c39, by omega, by omega, by rw [ht]; exact hI.1⟩), fun x9 hx9 => (by cases hx9)⟩, hI.2.F ht⟩) hI.2.2.2 d_Tr_takeFromParent_71)
                · rcases hpost.2 _ rfl with ⟨hex, c40, hI1⟩
                  have hI : sI (dC, dI) vcl cI cJ (gsC a he dp co li op wd tl lc sf lf) A s.heap H1 locs1 := ⟨by rw [← ht]; exact hI1, hS⟩
                  refine tz_widen (k := 1) (n := 6) (Nat.le_of_ble_eq_true rfl) (Nat.le_of_ble_eq_true rfl) ?_
                  subst hZ
                  exact tz_leave (tx_noH B (hts _ mw_773) _) (fun t9 ht9 hW9 => ⟨⟨fun v9 hv9 => (by cases hv9), fun x9 hx9 => by cases hx9; exact (⟨ta_exm hex ht ht9 hWt hW9, c40, by rw [ht9]; exact hI.1⟩)⟩, hI.2.F ht9⟩) hI.2.2.2 hlocks
              · rcases hpost.2 _ rfl with ⟨hex, c41, hI1⟩
                have hI : sI (dC, dI) vcl cI cJ (gsC a he dp co li op wd tl lc sf lf) A s.heap H1 locs1 := ⟨by rw [← ht]; exact hI1, hS⟩
                refine tz_widen (k := 1) (n := 6) (Nat.le_of_ble_eq_true rfl) (Nat.le_of_ble_eq_true rfl) ?_
                subst hZ
                exact tz_leave (tx_noH B (hts _ mw_773) _) (fun t9 ht9 hW9 => ⟨⟨fun v9 hv9 => (by cases hv9), fun x9 hx9 => by cases hx9; exact (⟨ta_exm hex ht ht9 hWt hW9, c41, by rw [ht9]; exact hI.1⟩)⟩, hI.2.F ht9⟩) hI.2.2.2 hlocks
            · rcases hpost.2 _ rfl with ⟨hex, c42, hI1⟩
              have hI : sI (dC, dI) vcl cI cJ (gsC a he dp co li op wd tl lc sf lf) A s.heap H1 locs1 := ⟨by rw [← ht]; exact hI1, hS⟩
              refine tz_widen (k := 1) (n := 6) (Nat.le_of_ble_eq_true rfl) (Nat.le_of_ble_eq_true rfl) ?_
              subst hZ
              exact tz_leave (tx_noH B (hts _ mw_773) _) (fun t9 ht9 hW9 => ⟨⟨fun v9 hv9 => (by cases hv9), fun x9 hx9 => by cases hx9; exact (⟨ta_exm hex ht ht9 hWt hW9, c42, by rw [ht9]; exact hI.1⟩)⟩, hI.2.F ht9⟩) hI.2.2.2 hlocks
          · rcases hpost.2 _ rfl with ⟨hex, c43, hI1⟩
            have hI : sI (dC, dI) vcl cI cJ (gsC a he dp co li op wd tl lc sf lf) A s.heap H1 locs1 := ⟨by rw [← ht]; exact hI1, hS⟩
            refine tz_widen (k := 1) (n := 6) (Nat.le_of_ble_eq_true rfl) (Nat.le_of_ble_eq_true rfl) ?_
            subst hZ
            exact tz_leave (tx_noH B (hts _ mw_773) _) (fun t9 ht9 hW9 => ⟨⟨fun v9 hv9 => (by cases hv9), fun x9 hx9 => by cases hx9; exact (⟨ta_exm hex ht ht9 hWt hW9, c43, by rw [ht9]; exact hI.1⟩)⟩, hI.2.F ht9⟩) hI.2.2.2 hlocks
        · rcases hpost.2 _ rfl with ⟨hex, c44, hI1⟩
          have hI : sI (dC, dI) vcl cI cJ (gsC a he dp co li op wd tl lc sf lf) A s.heap H1 locs1 := ⟨by rw [← ht]; exact hI1, hS⟩
          refine tz_widen (k := 1) (n := 6) (Nat.le_of_ble_eq_true rfl) (Nat.le_of_ble_eq_true rfl) ?_
          subst hZ
          exact tz_leave (tx_noH B (hts _ mw_773) _) (fun t9 ht9 hW9 => ⟨⟨fun v9 hv9 => (by cases hv9), fun x9 hx9 => by cases hx9; exact (⟨ta_exm hex ht ht9 hWt hW9, c44, by rw [ht9]; exact hI.1⟩)⟩, hI.2.F ht9⟩) hI.2.2.2 hlocks
      · subst hZ
        exact tz_ret (W.vret hx hb hr (fun t ht hW => ⟨⟨fun v9 hv9 => by cases hv9; exact (⟨rfl, c23, by omega, by omega, by rw [ht]; exact hI.1⟩), fun x9 hx9 => (by cases hx9)⟩, hI.2.F ht⟩) hI.2.2.2 d_Tr_takeFromParent_21)
    · rcases hpost.2 _ rfl with ⟨hex, c45, hI1⟩
      have hI : sI (dC, dI) vcl cI cJ (gsC a he dp co li op wd tl lc sf lf) A s.heap H1 locs1 := ⟨by rw [← ht]; exact hI1, hS⟩
      refine tz_widen (k := 1) (n := 6) (Nat.le_of_ble_eq_true rfl) (Nat.le_of_ble_eq_true rfl) ?_
      subst hZ
      exact tz_leave (tx_noH B (hts _ mw_773) _) (fun t9 ht9 hW9 => ⟨⟨fun v9 hv9 => (by cases hv9), fun x9 hx9 => by cases hx9; exact (⟨ta_exm hex ht ht9 hWt hW9, c45, by rw [ht9]; exact hI.1⟩)⟩, hI.2.F ht9⟩) hI.2.2.2 hlocks
  · rcases hpost.2 _ rfl with ⟨hex, c46, hI1⟩
    have hI : sI (dC, dI) vcl cI cJ (gsC a he dp co li op wd tl lc sf lf) A s.heap H1 locs1 := ⟨by rw [← ht]; exact hI1, hS⟩
    refine tz_widen (k := 1) (n := 6) (Nat.le_of_ble_eq_true rfl) (Nat.le_of_ble_eq_true rfl) ?_
    subst hZ
    exact tz_leave (tx_noH B (hts _ mw_773) _) (fun t9 ht9 hW9 => ⟨⟨fun v9 hv9 => (by cases hv9), fun x9 hx9 => by cases hx9; exact (⟨ta_exm hex ht ht9 hWt hW9, c46, by rw [ht9]; exact hI.1⟩)⟩, hI.2.F ht9⟩) hI.2.2.2 hlocks
abbrev q_Tr_putInto (dC : Nat → ClassId) (dI : Nat → Nat → Nat) (cI cJ : ClassId) (a : Nat → Nat) (he dp co li op wd tl lc : Int) (sf lf : Nat → Int32) (x1 : Int32) (x2 : Int32) : Outcome → State → Prop := fun o t => (∀ v, o = .returned v → ((v = none ∧ okC he dp co li op wd tl lc sf lf ∧ 1 ≤ x1.toInt ∧ x1.toInt ≤ 20 ∧ 1 ≤ x2.toInt ∧ x2.toInt ≤ 20 ∧ sh_I (dC, dI) vcl cI cJ (gsC a he dp co li op wd tl lc sf lf) t.heap))) ∧ (∀ x, o = .threw x → ((ta_Ex "java/lang/IllegalArgumentException" x t ∧ okC he dp co li op wd tl lc sf lf ∧ sh_I (dC, dI) vcl cI cJ (gsC a he dp co li op wd tl lc sf lf) t.heap)))
def rm_Tr_putInto : Room := { frames := 11, cells := 1, slots := 6, locals := 221 }
set_option maxHeartbeats 4000000 in
set_option maxRecDepth 100000 in
theorem c_Tr_putInto (l : Launch) (hfl : l.flags = pinnedFlags ++ [noTraceFlag]) (dC : Nat → ClassId) (dI : Nat → Nat → Nat) (cI cJ : ClassId) (a : Nat → Nat) (sz : Nat) (he dp co li op wd tl lc : Int) (sf lf : Nat → Int32) (x1 : Int32) (x2 : Int32) (hok : okC he dp co li op wd tl lc sf lf) : tz_Met l ⟨"StoryMachine$Tree", "putInto", "(II)V"⟩ tw_tbl rm_Tr_putInto (tzP (dC, dI) vcl cI cJ (gsC a he dp co li op wd tl lc sf lf) (adC a) [.ref (a 17), .int x1, .int x2] sz) (tq_Q (q_Tr_putInto dC dI cI cJ a he dp co li op wd tl lc sf lf x1 x2) (ga (adC a) sz)) 0 0 1 6 (ga (adC a) sz) := by
  refine tz_ofW (cc := prog_10_method_11_code) (maxL := 5) (ret := none) (by decide) (tx_isM mw_863) ?_
  intro p e s m args below meth c s₁ B hml hv
  obtain ⟨rfl, hsz, hI0, hK, hst0⟩ := hv
  have hx := B.exec
  have hb := B.bytes
  have hr := B.returns
  have hts := atoms_spec (ws := tw_tbl) B.pre
  have hown : s.vm.findClass "StoryMachine$Tree" = some m.cls := findClass_of_methodNamed B.named
  have hlocks := B.notSynchronized
  subst hsz
  have hst := fun (H : Heap) (locs : List Loc) (hS : va_S (ga (adC a) s.heap.size) s.heap H locs) (U : State) (hU : U.heap = H) (hW : s.WarmedH U.vm) => zS_all adC_map hI0 hst0 hS hU hW
  have hAC : ∀ q ∈ adC a, ga (adC a) s.heap.size q := fun q h => Or.inl h
  have hA0 : ∀ q, s.heap.size ≤ q → ga (adC a) s.heap.size q := fun q h => Or.inr h
  have hI : sI (dC, dI) vcl cI cJ (gsC a he dp co li op wd tl lc sf lf) (ga (adC a) s.heap.size) s.heap s.heap [] := ⟨hI0, va_S.rf⟩
  clear hI0 hst0
  have hl := lv_entry ([.ref (a 17), .int x1, .int x2]) (n := 5) (Nat.le_of_ble_eq_true rfl)
  rw [lg_entry_eq]
  generalize (lg_sl ([.ref (a 17), .int x1, .int x2]) ++ List.replicate (5 - (lg_sl ([.ref (a 17), .int x1, .int x2])).length) Slot.unset).toArray = ls at hl ⊢
  have hl : lv_has ls 5 [(0, .ref (a 17)), (1, .int x1), (2, .int x2)] := hl
  generalize hZ : tz_MQ below (tq_Q (q_Tr_putInto dC dI cI cJ a he dp co li op wd tl lc sf lf x1 x2) (ga (adC a) s.heap.size)) ([.ref (a 17), .int x1, .int x2] : List Value).toArray s 0 0 1 6 (ga (adC a) s.heap.size) = Z
  obtain ⟨A, hAe⟩ : ∃ A, A = ga (adC a) s.heap.size := ⟨_, rfl⟩
  rw [← hAe] at hst hAC hA0 hI hZ
  refine sv_start hI (fun H locs hI => ?_)
  obtain ⟨⟨o1, o2⟩, ⟨o3, o4⟩, ⟨o5, o6⟩, ⟨o7, o8⟩, ⟨o9, o10⟩, ⟨o11, o12⟩, ⟨o13, o14⟩, ⟨o15, o16⟩, o17, -⟩ := id hok
  have gx1 := sn_rng x1
  have gx2 := sn_rng x2
  refine lv_aload_n hx hb d_Tr_putInto_0 rfl (lv_at hl 0 rfl) ?_
  refine lv_iload_n hx hb d_Tr_putInto_1 rfl (lv_at hl 1 rfl) ?_
  refine tz_call (A1 := ga (adC a) H.size) (tz_runV (C := "StoryMachine$Tree") (As := [.int x1]) (rest := []) ⟨hx, hb, hml, hown, hts⟩ (c_Tr_placeOf l hfl dC dI cI cJ a H.size he dp co li op wd tl lc sf lf x1 hok) (tx_cb (n := 1) hts rfl rfl ⟨Nat.le_of_ble_eq_true rfl, Nat.le_of_ble_eq_true rfl⟩ (tx_code.of (hts _ mw_744)) (hts _ mw_9) (by decide +kernel) (hts _ mw_741)) (hts _ mw_743) (hts _ ms_Tr_placeOf) ⟨tz_blind, sv_recv (q0 := 17) hts in_Tr hK hI kC_17 rfl, fun U hU hW => ⟨rfl, by rw [hU], by rw [hU]; exact hI.1, va_K.moved hW.alike hK, hst _ _ hI.2 U hU hW⟩⟩ rfl rfl hl.1 rfl (lv_room (Nat.le_of_ble_eq_true rfl)) d_Tr_putInto_2 ⟨Nat.le_of_ble_eq_true rfl, Nat.le_of_ble_eq_true rfl⟩) hI.2 (fun q _ h => ga_sub hAC hA0 hI.2 q h) (ga_sub hAC hA0 hI.2) (fun v t H1 locs1 ht hWt hpost _ _ hS => ?_) (fun x t H1 locs1 ht hWt hpost _ _ hS => ?_)
  · rcases hpost.1 _ rfl with ⟨z18, hv, c19, c19_0, c19_1, c19_2, c19_3, hI1⟩
    cases hv
    have hI : sI (dC, dI) vcl cI cJ (gsC a he dp co li op wd tl lc sf lf) A s.heap H1 locs1 := ⟨by rw [← ht]; exact hI1, hS⟩
    clear hpost hI1 hS ht hWt
    revert hI; generalize H1 = H; generalize locs1 = locs; intro hI
    refine lv_istore_n (lv' := [(3, .int z18), (0, .ref (a 17)), (1, .int x1), (2, .int x2)]) hx hb d_Tr_putInto_5 rfl hl (by decide) rfl (fun ls hl => ?_)
    refine lv_aload_n hx hb d_Tr_putInto_6 rfl (lv_at hl 1 rfl) ?_
    refine lv_iload_n hx hb d_Tr_putInto_7 rfl (lv_at hl 3 rfl) ?_
    refine tz_call (A1 := ga (adC a) H.size) (tz_runV (C := "StoryMachine$Tree") (As := [.int x2]) (rest := []) ⟨hx, hb, hml, hown, hts⟩ (c_Tr_placeOf l hfl dC dI cI cJ a H.size he dp co li op wd tl lc sf lf x2 c19) (tx_cb (n := 1) hts rfl rfl ⟨Nat.le_of_ble_eq_true rfl, Nat.le_of_ble_eq_true rfl⟩ (tx_code.of (hts _ mw_744)) (hts _ mw_9) (by decide +kernel) (hts _ mw_741)) (hts _ mw_743) (hts _ ms_Tr_placeOf) ⟨tz_blind, sv_recv (q0 := 17) hts in_Tr hK hI kC_17 rfl, fun U hU hW => ⟨rfl, by rw [hU], by rw [hU]; exact hI.1, va_K.moved hW.alike hK, hst _ _ hI.2 U hU hW⟩⟩ rfl rfl hl.1 rfl (lv_room (Nat.le_of_ble_eq_true rfl)) d_Tr_putInto_8 ⟨Nat.le_of_ble_eq_true rfl, Nat.le_of_ble_eq_true rfl⟩) hI.2 (fun q _ h => ga_sub hAC hA0 hI.2 q h) (ga_sub hAC hA0 hI.2) (fun v t H1 locs1 ht hWt hpost _ _ hS => ?_) (fun x t H1 locs1 ht hWt hpost _ _ hS => ?_)
    · rcases hpost.1 _ rfl with ⟨z20, hv, c21, c21_0, c21_1, c21_2, c21_3, hI1⟩
      cases hv
      have hI : sI (dC, dI) vcl cI cJ (gsC a he dp co li op wd tl lc sf lf) A s.heap H1 locs1 := ⟨by rw [← ht]; exact hI1, hS⟩
      clear hpost hI1 hS ht hWt
      revert hI; generalize H1 = H; generalize locs1 = locs; intro hI
      refine lv_istore (lv' := [(4, .int z20), (3, .int z18), (0, .ref (a 17)), (1, .int x1), (2, .int x2)]) hx hb d_Tr_putInto_11 hl (by decide) rfl (fun ls hl => ?_)
      refine lv_aload_n hx hb d_Tr_putInto_13 rfl (lv_at hl 2 rfl) ?_
      refine lv_iload_n hx hb d_Tr_putInto_14 rfl (lv_at hl 3 rfl) ?_
      refine tz_call (A1 := ga (adC a) H.size) (tz_runV (C := "StoryMachine$Tree") (As := [.int x1]) (rest := []) ⟨hx, hb, hml, hown, hts⟩ (c_Tr_takeFromParent l hfl dC dI cI cJ a H.size he dp co li op wd tl lc sf lf x1 c21) (tx_cb (n := 1) hts rfl rfl ⟨Nat.le_of_ble_eq_true rfl, Nat.le_of_ble_eq_true rfl⟩ (tx_code.of (hts _ mw_773)) (hts _ mw_9) (by decide +kernel) (hts _ mw_864)) (hts _ mw_771) (hts _ mw_772) ⟨tz_blind, sv_recv (q0 := 17) hts in_Tr hK hI kC_17 rfl, fun U hU hW => ⟨rfl, by rw [hU], by rw [hU]; exact hI.1, va_K.moved hW.alike hK, hst _ _ hI.2 U hU hW⟩⟩ rfl rfl hl.1 rfl (lv_room (Nat.le_of_ble_eq_true rfl)) d_Tr_putInto_15 ⟨Nat.le_of_ble_eq_true rfl, Nat.le_of_ble_eq_true rfl⟩) hI.2 (fun q _ h => ga_sub hAC hA0 hI.2 q h) (ga_sub hAC hA0 hI.2) (fun v t H1 locs1 ht hWt hpost _ _ hS => ?_) (fun x t H1 locs1 ht hWt hpost _ _ hS => ?_)
      · rcases hpost.1 _ rfl with ⟨hv, c22, c22_0, c22_1, hI1⟩
        cases hv
        have hI : sI (dC, dI) vcl cI cJ (gsC a he dp co li op wd tl lc sf lf) A s.heap H1 locs1 := ⟨by rw [← ht]; exact hI1, hS⟩
        clear hpost hI1 hS ht hWt
        revert hI; generalize H1 = H; generalize locs1 = locs; intro hI
        refine lv_aload_n hx hb d_Tr_putInto_18 rfl (lv_at hl 2 rfl) ?_
        refine sv_getr (C := "StoryMachine$Tree") (T := T_Tr) (N := 1) hx hb hts in_Tr hown hK hI 17 kC_17 rfl 0 (by decide) (hts _ mw_181) rfl d_Tr_putInto_19 ?_
        refine lv_iload_n hx hb d_Tr_putInto_22 rfl (lv_at hl 1 rfl) ?_
        refine sn_iconst hx hb d_Tr_putInto_23 (by decide) (fun z23 hz23 => ?_)
        refine sn_iadd hx hb d_Tr_putInto_24 (by omega) (by omega) (fun z24 hz24 => ?_)
        refine lv_iload_n hx hb d_Tr_putInto_25 rfl (lv_at hl 4 rfl) ?_
        refine tz_call (A1 := ga (adC a) H.size) (tz_runV (C := "StoryMachine$Memory") (As := [.int z24, .int x2]) (rest := []) ⟨hx, hb, hml, hown, hts⟩ (c_Me_writeByte l hfl dC dI cI cJ a H.size he dp co li op wd tl lc sf lf z24 x2 c22) (tx_cb (n := 2) hts rfl rfl ⟨Nat.le_of_ble_eq_true rfl, Nat.le_of_ble_eq_true rfl⟩ (tx_code.of (hts _ mw_781)) (hts _ mw_2) (by decide +kernel) (hts _ mw_778)) (hts _ mw_779) (hts _ mw_780) ⟨tz_blind, sv_recv (q0 := 1) hts in_Me hK hI kC_1 rfl, fun U hU hW => ⟨rfl, by rw [hU], by rw [hU]; exact hI.1, va_K.moved hW.alike hK, hst _ _ hI.2 U hU hW⟩⟩ rfl rfl hl.1 rfl (lv_room (Nat.le_of_ble_eq_true rfl)) d_Tr_putInto_26 ⟨Nat.le_of_ble_eq_true rfl, Nat.le_of_ble_eq_true rfl⟩) hI.2 (fun q _ h => ga_sub hAC hA0 hI.2 q h) (ga_sub hAC hA0 hI.2) (fun v t H1 locs1 ht hWt hpost _ _ hS => ?_) (fun x t H1 locs1 ht hWt hpost _ _ hS => ?_)
        · rcases hpost.1 _ rfl with ⟨hv, c25, c25_0, c25_1, hI1⟩
          cases hv
          have hI : sI (dC, dI) vcl cI cJ (gsC a he dp co li op wd tl lc sf lf) A s.heap H1 locs1 := ⟨by rw [← ht]; exact hI1, hS⟩
          clear hpost hI1 hS ht hWt
          revert hI; generalize H1 = H; generalize locs1 = locs; intro hI
          refine lv_aload_n hx hb d_Tr_putInto_29 rfl (lv_at hl 2 rfl) ?_
          refine sv_getr (C := "StoryMachine$Tree") (T := T_Tr) (N := 1) hx hb hts in_Tr hown hK hI 17 kC_17 rfl 0 (by decide) (hts _ mw_181) rfl d_Tr_putInto_30 ?_
          refine lv_iload_n hx hb d_Tr_putInto_33 rfl (lv_at hl 1 rfl) ?_
          refine sn_iconst hx hb d_Tr_putInto_34 (by decide) (fun z26 hz26 => ?_)
          refine sn_iadd hx hb d_Tr_putInto_35 (by omega) (by omega) (fun z27 hz27 => ?_)
          refine lv_aload_n hx hb d_Tr_putInto_36 rfl (lv_at hl 2 rfl) ?_
          refine sv_getr (C := "StoryMachine$Tree") (T := T_Tr) (N := 1) hx hb hts in_Tr hown hK hI 17 kC_17 rfl 0 (by decide) (hts _ mw_181) rfl d_Tr_putInto_37 ?_
          refine lv_iload hx hb d_Tr_putInto_40 (lv_at hl 0 rfl) ?_
          refine sn_bipush hx hb d_Tr_putInto_42 (by decide) (fun z28 hz28 => ?_)
          refine sn_iadd hx hb d_Tr_putInto_44 (by omega) (by omega) (fun z29 hz29 => ?_)
          refine tz_call (A1 := ga (adC a) H.size) (tz_runV (C := "StoryMachine$Memory") (As := [.int z29]) (rest := [.int z27, .ref (a 1)]) ⟨hx, hb, hml, hown, hts⟩ (c_Me_byteAt l hfl dC dI cI cJ a H.size he dp co li op wd tl lc sf lf z29 c25) (tx_cb (n := 1) hts rfl rfl ⟨Nat.le_of_ble_eq_true rfl, Nat.le_of_ble_eq_true rfl⟩ (tx_code.of (hts _ mw_511)) (hts _ mw_2) (by decide +kernel) (hts _ mw_748)) (hts _ mw_509) (hts _ mw_510) ⟨tz_blind, sv_recv (q0 := 1) hts in_Me hK hI kC_1 rfl, fun U hU hW => ⟨rfl, by rw [hU], by rw [hU]; exact hI.1, va_K.moved hW.alike hK, hst _ _ hI.2 U hU hW⟩⟩ rfl rfl hl.1 rfl (lv_room (Nat.le_of_ble_eq_true rfl)) d_Tr_putInto_45 ⟨Nat.le_of_ble_eq_true rfl, Nat.le_of_ble_eq_true rfl⟩) hI.2 (fun q _ h => ga_sub hAC hA0 hI.2 q h) (ga_sub hAC hA0 hI.2) (fun v t H1 locs1 ht hWt hpost _ _ hS => ?_) (fun x t H1 locs1 ht hWt hpost _ _ hS => ?_)
          · rcases hpost.1 _ rfl with ⟨z30, hv, c31, c31_0, c31_1, c31_2, c31_3, hI1⟩
            cases hv
            have hI : sI (dC, dI) vcl cI cJ (gsC a he dp co li op wd tl lc sf lf) A s.heap H1 locs1 := ⟨by rw [← ht]; exact hI1, hS⟩
            clear hpost hI1 hS ht hWt
            revert hI; generalize H1 = H; generalize locs1 = locs; intro hI
            refine tz_call (A1 := ga (adC a) H.size) (tz_runV (C := "StoryMachine$Memory") (As := [.int z27, .int z30]) (rest := []) ⟨hx, hb, hml, hown, hts⟩ (c_Me_writeByte l hfl dC dI cI cJ a H.size he dp co li op wd tl lc sf lf z27 z30 c31) (tx_cb (n := 2) hts rfl rfl ⟨Nat.le_of_ble_eq_true rfl, Nat.le_of_ble_eq_true rfl⟩ (tx_code.of (hts _ mw_781)) (hts _ mw_2) (by decide +kernel) (hts _ mw_778)) (hts _ mw_779) (hts _ mw_780) ⟨tz_blind, sv_recv (q0 := 1) hts in_Me hK hI kC_1 rfl, fun U hU hW => ⟨rfl, by rw [hU], by rw [hU]; exact hI.1, va_K.moved hW.alike hK, hst _ _ hI.2 U hU hW⟩⟩ rfl rfl hl.1 rfl (lv_room (Nat.le_of_ble_eq_true rfl)) d_Tr_putInto_48 ⟨Nat.le_of_ble_eq_true rfl, Nat.le_of_ble_eq_true rfl⟩) hI.2 (fun q _ h => ga_sub hAC hA0 hI.2 q h) (ga_sub hAC hA0 hI.2) (fun v t H1 locs1 ht hWt hpost _ _ hS => ?_) (fun x t H1 locs1 ht hWt hpost _ _ hS => ?_)
            · rcases hpost.1 _ rfl with ⟨hv, c32, c32_0, c32_1, hI1⟩
              cases hv
              have hI : sI (dC, dI) vcl cI cJ (gsC a he dp co li op wd tl lc sf lf) A s.heap H1 locs1 := ⟨by rw [← ht]; exact hI1, hS⟩
              clear hpost hI1 hS ht hWt
              revert hI; generalize H1 = H; generalize locs1 = locs; intro hI
              refine lv_aload_n hx hb d_Tr_putInto_51 rfl (lv_at hl 2 rfl) ?_
              refine sv_getr (C := "StoryMachine$Tree") (T := T_Tr) (N := 1) hx hb hts in_Tr hown hK hI 17 kC_17 rfl 0 (by decide) (hts _ mw_181) rfl d_Tr_putInto_52 ?_
              refine lv_iload hx hb d_Tr_putInto_55 (lv_at hl 0 rfl) ?_
              refine sn_bipush hx hb d_Tr_putInto_57 (by decide) (fun z33 hz33 => ?_)
              refine sn_iadd hx hb d_Tr_putInto_59 (by omega) (by omega) (fun z34 hz34 => ?_)
              refine lv_iload_n hx hb d_Tr_putInto_60 rfl (lv_at hl 3 rfl) ?_
              refine tz_call (A1 := ga (adC a) H.size) (tz_runV (C := "StoryMachine$Memory") (As := [.int z34, .int x1]) (rest := []) ⟨hx, hb, hml, hown, hts⟩ (c_Me_writeByte l hfl dC dI cI cJ a H.size he dp co li op wd tl lc sf lf z34 x1 c32) (tx_cb (n := 2) hts rfl rfl ⟨Nat.le_of_ble_eq_true rfl, Nat.le_of_ble_eq_true rfl⟩ (tx_code.of (hts _ mw_781)) (hts _ mw_2) (by decide +kernel) (hts _ mw_778)) (hts _ mw_779) (hts _ mw_780) ⟨tz_blind, sv_recv (q0 := 1) hts in_Me hK hI kC_1 rfl, fun U hU hW => ⟨rfl, by rw [hU], by rw [hU]; exact hI.1, va_K.moved hW.alike hK, hst _ _ hI.2 U hU hW⟩⟩ rfl rfl hl.1 rfl (lv_room (Nat.le_of_ble_eq_true rfl)) d_Tr_putInto_61 ⟨Nat.le_of_ble_eq_true rfl, Nat.le_of_ble_eq_true rfl⟩) hI.2 (fun q _ h => ga_sub hAC hA0 hI.2 q h) (ga_sub hAC hA0 hI.2) (fun v t H1 locs1 ht hWt hpost _ _ hS => ?_) (fun x t H1 locs1 ht hWt hpost _ _ hS => ?_)
              · rcases hpost.1 _ rfl with ⟨hv, c35, c35_0, c35_1, hI1⟩
                cases hv
                have hI : sI (dC, dI) vcl cI cJ (gsC a he dp co li op wd tl lc sf lf) A s.heap H1 locs1 := ⟨by rw [← ht]; exact hI1, hS⟩
                clear hpost hI1 hS ht hWt
                revert hI; generalize H1 = H; generalize locs1 = locs; intro hI
                subst hZ
                exact tz_ret (W.vret hx hb hr (fun t ht hW => ⟨⟨fun v9 hv9 => by cases hv9; exact (⟨rfl, c35, by omega, by omega, by omega, by omega, by rw [ht]; exact hI.1⟩), fun x9 hx9 => (by cases hx9)⟩, hI.2.F ht⟩) hI.2.2.2 d_Tr_putInto_64)
              · rcases hpost.2 _ rfl with ⟨hex, c36, hI1⟩
                have hI : sI (dC, dI) vcl cI cJ (gsC a he dp co li op wd tl lc sf lf) A s.heap H1 locs1 := ⟨by rw [← ht]; exact hI1, hS⟩
                refine tz_widen (k := 1) (n := 6) (Nat.le_of_ble_eq_true rfl) (Nat.le_of_ble_eq_true rfl) ?_
                subst hZ
                exact tz_leave (tx_noH B (hts _ mw_863) _) (fun t9 ht9 hW9 => ⟨⟨fun v9 hv9 => (by cases hv9), fun x9 hx9 => by cases hx9; exact (⟨ta_exm hex ht ht9 hWt hW9, c36, by rw [ht9]; exact hI.1⟩)⟩, hI.2.F ht9⟩) hI.2.2.2 hlocks
            · rcases hpost.2 _ rfl with ⟨hex, c37, hI1⟩
              have hI : sI (dC, dI) vcl cI cJ (gsC a he dp co li op wd tl lc sf lf) A s.heap H1 locs1 := ⟨by rw [← ht]; exact hI1, hS⟩
              refine tz_widen (k := 1) (n := 6) (Nat.le_of_ble_eq_true rfl) (Nat.le_of_ble_eq_true rfl) ?_
              subst hZ
              exact tz_leave (tx_noH B (hts _ mw_863) _) (fun t9 ht9 hW9 => ⟨⟨fun v9 hv9 => (by cases hv9), fun x9 hx9 => by cases hx9; exact (⟨ta_exm hex ht ht9 hWt hW9, c37, by rw [ht9]; exact hI.1⟩)⟩, hI.2.F ht9⟩) hI.2.2.2 hlocks
          · rcases hpost.2 _ rfl with ⟨hex, c38, hI1⟩
            have hI : sI (dC, dI) vcl cI cJ (gsC a he dp co li op wd tl lc sf lf) A s.heap H1 locs1 := ⟨by rw [← ht]; exact hI1, hS⟩
            refine tz_widen (k := 1) (n := 6) (Nat.le_of_ble_eq_true rfl) (Nat.le_of_ble_eq_true rfl) ?_
            subst hZ
            exact tz_leave (tx_noH B (hts _ mw_863) _) (fun t9 ht9 hW9 => ⟨⟨fun v9 hv9 => (by cases hv9), fun x9 hx9 => by cases hx9; exact (⟨ta_exm hex ht ht9 hWt hW9, c38, by rw [ht9]; exact hI.1⟩)⟩, hI.2.F ht9⟩) hI.2.2.2 hlocks
        · rcases hpost.2 _ rfl with ⟨hex, c39, hI1⟩
          have hI : sI (dC, dI) vcl cI cJ (gsC a he dp co li op wd tl lc sf lf) A s.heap H1 locs1 := ⟨by rw [← ht]; exact hI1, hS⟩
          refine tz_widen (k := 1) (n := 6) (Nat.le_of_ble_eq_true rfl) (Nat.le_of_ble_eq_true rfl) ?_
          subst hZ
          exact tz_leave (tx_noH B (hts _ mw_863) _) (fun t9 ht9 hW9 => ⟨⟨fun v9 hv9 => (by cases hv9), fun x9 hx9 => by cases hx9; exact (⟨ta_exm hex ht ht9 hWt hW9, c39, by rw [ht9]; exact hI.1⟩)⟩, hI.2.F ht9⟩) hI.2.2.2 hlocks
      · rcases hpost.2 _ rfl with ⟨hex, c40, hI1⟩
        have hI : sI (dC, dI) vcl cI cJ (gsC a he dp co li op wd tl lc sf lf) A s.heap H1 locs1 := ⟨by rw [← ht]; exact hI1, hS⟩
        refine tz_widen (k := 1) (n := 6) (Nat.le_of_ble_eq_true rfl) (Nat.le_of_ble_eq_true rfl) ?_
        subst hZ
        exact tz_leave (tx_noH B (hts _ mw_863) _) (fun t9 ht9 hW9 => ⟨⟨fun v9 hv9 => (by cases hv9), fun x9 hx9 => by cases hx9; exact (⟨ta_exm hex ht ht9 hWt hW9, c40, by rw [ht9]; exact hI.1⟩)⟩, hI.2.F ht9⟩) hI.2.2.2 hlocks
    · rcases hpost.2 _ rfl with ⟨hex, c41, hI1⟩
      have hI : sI (dC, dI) vcl cI cJ (gsC a he dp co li op wd tl lc sf lf) A s.heap H1 locs1 := ⟨by rw [← ht]; exact hI1, hS⟩
      refine tz_widen (k := 1) (n := 6) (Nat.le_of_ble_eq_true rfl) (Nat.le_of_ble_eq_true rfl) ?_
      subst hZ
      exact tz_leave (tx_noH B (hts _ mw_863) _) (fun t9 ht9 hW9 => ⟨⟨fun v9 hv9 => (by cases hv9), fun x9 hx9 => by cases hx9; exact (⟨ta_exm hex ht ht9 hWt hW9, c41, by rw [ht9]; exact hI.1⟩)⟩, hI.2.F ht9⟩) hI.2.2.2 hlocks
  · rcases hpost.2 _ rfl with ⟨hex, c42, hI1⟩
    have hI : sI (dC, dI) vcl cI cJ (gsC a he dp co li op wd tl lc sf lf) A s.heap H1 locs1 := ⟨by rw [← ht]; exact hI1, hS⟩
    refine tz_widen (k := 1) (n := 6) (Nat.le_of_ble_eq_true rfl) (Nat.le_of_ble_eq_true rfl) ?_
    subst hZ
    exact tz_leave (tx_noH B (hts _ mw_863) _) (fun t9 ht9 hW9 => ⟨⟨fun v9 hv9 => (by cases hv9), fun x9 hx9 => by cases hx9; exact (⟨ta_exm hex ht ht9 hWt hW9, c42, by rw [ht9]; exact hI.1⟩)⟩, hI.2.F ht9⟩) hI.2.2.2 hlocks
abbrev q_Tr_namePlace (dC : Nat → ClassId) (dI : Nat → Nat → Nat) (cI cJ : ClassId) (a : Nat → Nat) (he dp co li op wd tl lc : Int) (sf lf : Nat → Int32) (x1 : Int32) : Outcome → State → Prop := fun o t => (∀ v, o = .returned v → ((∃ (z : Int32), v = some (.int z) ∧ okC he dp co li op wd tl lc sf lf ∧ 0 ≤ z.toInt ∧ z.toInt ≤ 65535 ∧ 1 ≤ x1.toInt ∧ x1.toInt ≤ 20 ∧ sh_I (dC, dI) vcl cI cJ (gsC a he dp co li op wd tl lc sf lf) t.heap))) ∧ (∀ x, o = .threw x → ((ta_Ex "java/lang/IllegalArgumentException" x t ∧ okC he dp co li op wd tl lc sf lf ∧ sh_I (dC, dI) vcl cI cJ (gsC a he dp co li op wd tl lc sf lf) t.heap)))
def rm_Tr_namePlace : Room := { frames := 9, cells := 1, slots := 6, locals := 172 }
set_option maxHeartbeats 4000000 in
set_option maxRecDepth 100000 in
theorem c_Tr_namePlace (l : Launch) (hfl : l.flags = pinnedFlags ++ [noTraceFlag]) (dC : Nat → ClassId) (dI : Nat → Nat → Nat) (cI cJ : ClassId) (a : Nat → Nat) (sz : Nat) (he dp co li op wd tl lc : Int) (sf lf : Nat → Int32) (x1 : Int32) (hok : okC he dp co li op wd tl lc sf lf) : tz_Met l ⟨"StoryMachine$Tree", "namePlace", "(I)I"⟩ tw_tbl rm_Tr_namePlace (tzP (dC, dI) vcl cI cJ (gsC a he dp co li op wd tl lc sf lf) (adC a) [.ref (a 17), .int x1] sz) (tq_Q (q_Tr_namePlace dC dI cI cJ a he dp co li op wd tl lc sf lf x1) (ga (adC a) sz)) 0 0 1 6 (ga (adC a) sz) := by
  refine tz_ofW (cc := prog_10_method_12_code) (maxL := 2) (ret := (some .int)) (by decide) (tx_isM mw_789) ?_
  intro p e s m args below meth c s₁ B hml hv
  obtain ⟨rfl, hsz, hI0, hK, hst0⟩ := hv
  have hx := B.exec
  have hb := B.bytes
  have hr := B.returns
  have hts := atoms_spec (ws := tw_tbl) B.pre
  have hown : s.vm.findClass "StoryMachine$Tree" = some m.cls := findClass_of_methodNamed B.named
  have hlocks := B.notSynchronized
  subst hsz
  have hst := fun (H : Heap) (locs : List Loc) (hS : va_S (ga (adC a) s.heap.size) s.heap H locs) (U : State) (hU : U.heap = H) (hW : s.WarmedH U.vm) => zS_all adC_map hI0 hst0 hS hU hW
  have hAC : ∀ q ∈ adC a, ga (adC a) s.heap.size q := fun q h => Or.inl h
  have hA0 : ∀ q, s.heap.size ≤ q → ga (adC a) s.heap.size q := fun q h => Or.inr h
  have hI : sI (dC, dI) vcl cI cJ (gsC a he dp co li op wd tl lc sf lf) (ga (adC a) s.heap.size) s.heap s.heap [] := ⟨hI0, va_S.rf⟩
  clear hI0 hst0
  have hl := lv_entry ([.ref (a 17), .int x1]) (n := 2) (Nat.le_of_ble_eq_true rfl)
  rw [lg_entry_eq]
  generalize (lg_sl ([.ref (a 17), .int x1]) ++ List.replicate (2 - (lg_sl ([.ref (a 17), .int x1])).length) Slot.unset).toArray = ls at hl ⊢
  have hl : lv_has ls 2 [(0, .ref (a 17)), (1, .int x1)] := hl
  generalize hZ : tz_MQ below (tq_Q (q_Tr_namePlace dC dI cI cJ a he dp co li op wd tl lc sf lf x1) (ga (adC a) s.heap.size)) ([.ref (a 17), .int x1] : List Value).toArray s 0 0 1 6 (ga (adC a) s.heap.size) = Z
  obtain ⟨A, hAe⟩ : ∃ A, A = ga (adC a) s.heap.size := ⟨_, rfl⟩
  rw [← hAe] at hst hAC hA0 hI hZ
  refine sv_start hI (fun H locs hI => ?_)
  obtain ⟨⟨o1, o2⟩, ⟨o3, o4⟩, ⟨o5, o6⟩, ⟨o7, o8⟩, ⟨o9, o10⟩, ⟨o11, o12⟩, ⟨o13, o14⟩, ⟨o15, o16⟩, o17, -⟩ := id hok
  have gx1 := sn_rng x1
  refine lv_aload_n hx hb d_Tr_namePlace_0 rfl (lv_at hl 0 rfl) ?_
  refine sv_getr (C := "StoryMachine$Tree") (T := T_Tr) (N := 1) hx hb hts in_Tr hown hK hI 17 kC_17 rfl 0 (by decide) (hts _ mw_181) rfl d_Tr_namePlace_1 ?_
  refine lv_aload_n hx hb d_Tr_namePlace_4 rfl (lv_at hl 0 rfl) ?_
  refine lv_iload_n hx hb d_Tr_namePlace_5 rfl (lv_at hl 1 rfl) ?_
  refine tz_call (A1 := ga (adC a) H.size) (tz_runV (C := "StoryMachine$Tree") (As := [.int x1]) (rest := [.ref (a 1)]) ⟨hx, hb, hml, hown, hts⟩ (c_Tr_placeOf l hfl dC dI cI cJ a H.size he dp co li op wd tl lc sf lf x1 hok) (tx_cb (n := 1) hts rfl rfl ⟨Nat.le_of_ble_eq_true rfl, Nat.le_of_ble_eq_true rfl⟩ (tx_code.of (hts _ mw_744)) (hts _ mw_9) (by decide +kernel) (hts _ mw_741)) (hts _ mw_743) (hts _ ms_Tr_placeOf) ⟨tz_blind, sv_recv (q0 := 17) hts in_Tr hK hI kC_17 rfl, fun U hU hW => ⟨rfl, by rw [hU], by rw [hU]; exact hI.1, va_K.moved hW.alike hK, hst _ _ hI.2 U hU hW⟩⟩ rfl rfl hl.1 rfl (lv_room (Nat.le_of_ble_eq_true rfl)) d_Tr_namePlace_6 ⟨Nat.le_of_ble_eq_true rfl, Nat.le_of_ble_eq_true rfl⟩) hI.2 (fun q _ h => ga_sub hAC hA0 hI.2 q h) (ga_sub hAC hA0 hI.2) (fun v t H1 locs1 ht hWt hpost _ _ hS => ?_) (fun x t H1 locs1 ht hWt hpost _ _ hS => ?_)
  · rcases hpost.1 _ rfl with ⟨z18, hv, c19, c19_0, c19_1, c19_2, c19_3, hI1⟩
    cases hv
    have hI : sI (dC, dI) vcl cI cJ (gsC a he dp co li op wd tl lc sf lf) A s.heap H1 locs1 := ⟨by rw [← ht]; exact hI1, hS⟩
    clear hpost hI1 hS ht hWt
    revert hI; generalize H1 = H; generalize locs1 = locs; intro hI
    refine sn_bipush hx hb d_Tr_namePlace_9 (by decide) (fun z20 hz20 => ?_)
    refine sn_iadd hx hb d_Tr_namePlace_11 (by omega) (by omega) (fun z21 hz21 => ?_)
    refine tz_call (A1 := ga (adC a) H.size) (tz_runV (C := "StoryMachine$Memory") (As := [.int z21]) (rest := []) ⟨hx, hb, hml, hown, hts⟩ (c_Me_wordAt l hfl dC dI cI cJ a H.size he dp co li op wd tl lc sf lf z21 c19) (tx_cb (n := 1) hts rfl rfl ⟨Nat.le_of_ble_eq_true rfl, Nat.le_of_ble_eq_true rfl⟩ (tx_code.of (hts _ mw_440)) (hts _ mw_2) (by decide +kernel) (hts _ mw_747)) (hts _ mw_438) (hts _ mw_439) ⟨tz_blind, sv_recv (q0 := 1) hts in_Me hK hI kC_1 rfl, fun U hU hW => ⟨rfl, by rw [hU], by rw [hU]; exact hI.1, va_K.moved hW.alike hK, hst _ _ hI.2 U hU hW⟩⟩ rfl rfl hl.1 rfl (lv_room (Nat.le_of_ble_eq_true rfl)) d_Tr_namePlace_12 ⟨Nat.le_of_ble_eq_true rfl, Nat.le_of_ble_eq_true rfl⟩) hI.2 (fun q _ h => ga_sub hAC hA0 hI.2 q h) (ga_sub hAC hA0 hI.2) (fun v t H1 locs1 ht hWt hpost _ _ hS => ?_) (fun x t H1 locs1 ht hWt hpost _ _ hS => ?_)
    · rcases hpost.1 _ rfl with ⟨z22, hv, c23, c23_0, c23_1, c23_2, c23_3, hI1⟩
      cases hv
      have hI : sI (dC, dI) vcl cI cJ (gsC a he dp co li op wd tl lc sf lf) A s.heap H1 locs1 := ⟨by rw [← ht]; exact hI1, hS⟩
      clear hpost hI1 hS ht hWt
      revert hI; generalize H1 = H; generalize locs1 = locs; intro hI
      subst hZ
      exact tz_ret (W.iret (v := z22) hx hb hr (fun t ht hW => ⟨⟨fun v9 hv9 => by cases hv9; exact (⟨z22, rfl, c23, by omega, by omega, by omega, by omega, by rw [ht]; exact hI.1⟩), fun x9 hx9 => (by cases hx9)⟩, hI.2.F ht⟩) hI.2.2.2 d_Tr_namePlace_15)
    · rcases hpost.2 _ rfl with ⟨hex, c24, hI1⟩
      have hI : sI (dC, dI) vcl cI cJ (gsC a he dp co li op wd tl lc sf lf) A s.heap H1 locs1 := ⟨by rw [← ht]; exact hI1, hS⟩
      refine tz_widen (k := 1) (n := 6) (Nat.le_of_ble_eq_true rfl) (Nat.le_of_ble_eq_true rfl) ?_
      subst hZ
      exact tz_leave (tx_noH B (hts _ mw_789) _) (fun t9 ht9 hW9 => ⟨⟨fun v9 hv9 => (by cases hv9), fun x9 hx9 => by cases hx9; exact (⟨ta_exm hex ht ht9 hWt hW9, c24, by rw [ht9]; exact hI.1⟩)⟩, hI.2.F ht9⟩) hI.2.2.2 hlocks
  · rcases hpost.2 _ rfl with ⟨hex, c25, hI1⟩
    have hI : sI (dC, dI) vcl cI cJ (gsC a he dp co li op wd tl lc sf lf) A s.heap H1 locs1 := ⟨by rw [← ht]; exact hI1, hS⟩
    refine tz_widen (k := 1) (n := 6) (Nat.le_of_ble_eq_true rfl) (Nat.le_of_ble_eq_true rfl) ?_
    subst hZ
    exact tz_leave (tx_noH B (hts _ mw_789) _) (fun t9 ht9 hW9 => ⟨⟨fun v9 hv9 => (by cases hv9), fun x9 hx9 => by cases hx9; exact (⟨ta_exm hex ht ht9 hWt hW9, c25, by rw [ht9]; exact hI.1⟩)⟩, hI.2.F ht9⟩) hI.2.2.2 hlocks
