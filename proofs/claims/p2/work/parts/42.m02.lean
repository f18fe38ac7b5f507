abbrev q_Ro_demandRoom (dC : Nat → ClassId) (dI : Nat → Nat → Nat) (cI cJ : ClassId) (a : Nat → Nat) (he dp co li op wd tl lc : Int) (sf lf : Nat → Int32) : Outcome → State → Prop := fun o t => (∀ v, o = .returned v → ((v = none ∧ okC he dp co li op wd tl lc sf lf ∧ dp ≤ 9 ∧ sh_I (dC, dI) vcl cI cJ (gsC a he dp co li op wd tl lc sf lf) t.heap))) ∧ (∀ x, o = .threw x → ((ta_Ex "java/lang/IllegalStateException" x t ∧ okC he dp co li op wd tl lc sf lf ∧ 10 ≤ dp ∧ sh_I (dC, dI) vcl cI cJ (gsC a he dp co li op wd tl lc sf lf) t.heap)))
def rm_Ro_demandRoom : Room := { frames := 7, cells := 1, slots := 6, locals := 130 }
set_option maxHeartbeats 4000000 in
set_option maxRecDepth 100000 in
theorem c_Ro_demandRoom (l : Launch) (hfl : l.flags = pinnedFlags ++ [noTraceFlag]) (dC : Nat → ClassId) (dI : Nat → Nat → Nat) (cI cJ : ClassId) (a : Nat → Nat) (sz : Nat) (he dp co li op wd tl lc : Int) (sf lf : Nat → Int32) (hok : okC he dp co li op wd tl lc sf lf) : tz_Met l ⟨"StoryMachine$Routines", "demandRoom", "()V"⟩ tw_tbl rm_Ro_demandRoom (tzP (dC, dI) vcl cI cJ (gsC a he dp co li op wd tl lc sf lf) (adC a) [.ref (a 3)] sz) (tq_Q (q_Ro_demandRoom dC dI cI cJ a he dp co li op wd tl lc sf lf) (ga (adC a) sz)) 0 0 1 6 (ga (adC a) sz) := by
  refine tz_ofW (cc := prog_9_method_10_code) (maxL := 1) (ret := none) (by decide) (tx_isM mw_876) ?_
  intro p e s m args below meth c s₁ B hml hv
  obtain ⟨rfl, hsz, hI0, hK, hst0⟩ := hv
  have hx := B.exec
  have hb := B.bytes
  have hr := B.returns
  have hts := atoms_spec (ws := tw_tbl) B.pre
  have hown : s.vm.findClass "StoryMachine$Routines" = some m.cls := findClass_of_methodNamed B.named
  have hlocks := B.notSynchronized
  subst hsz
  have hst := fun (H : Heap) (locs : List Loc) (hS : va_S (ga (adC a) s.heap.size) s.heap H locs) (U : State) (hU : U.heap = H) (hW : s.WarmedH U.vm) => zS_all adC_map hI0 hst0 hS hU hW
  have hAC : ∀ q ∈ adC a, ga (adC a) s.heap.size q := fun q h => Or.inl h
  have hA0 : ∀ q, s.heap.size ≤ q → ga (adC a) s.heap.size q := fun q h => Or.inr h
  have hI : sI (dC, dI) vcl cI cJ (gsC a he dp co li op wd tl lc sf lf) (ga (adC a) s.heap.size) s.heap s.heap [] := ⟨hI0, va_S.rf⟩
  clear hI0 hst0
  have hl := lv_entry ([.ref (a 3)]) (n := 1) (Nat.le_of_ble_eq_true rfl)
  rw [lg_entry_eq]
  generalize (lg_sl ([.ref (a 3)]) ++ List.replicate (1 - (lg_sl ([.ref (a 3)])).length) Slot.unset).toArray = ls at hl ⊢
  have hl : lv_has ls 1 [(0, .ref (a 3))] := hl
  generalize hZ : tz_MQ below (tq_Q (q_Ro_demandRoom dC dI cI cJ a he dp co li op wd tl lc sf lf) (ga (adC a) s.heap.size)) ([.ref (a 3)] : List Value).toArray s 0 0 1 6 (ga (adC a) s.heap.size) = Z
  obtain ⟨A, hAe⟩ : ∃ A, A = ga (adC a) s.heap.size := ⟨_, rfl⟩
  rw [← hAe] at hst hAC hA0 hI hZ
  refine sv_start hI (fun H locs hI => ?_)
  obtain ⟨⟨o1, o2⟩, ⟨o3, o4⟩, ⟨o5, o6⟩, ⟨o7, o8⟩, ⟨o9, o10⟩, ⟨o11, o12⟩, ⟨o13, o14⟩, ⟨o15, o16⟩, o17, -⟩ := id hok
  refine lv_aload_n hx hb d_Ro_demandRoom_0 rfl (lv_at hl 0 rfl) ?_
  refine sv_gete (C := "StoryMachine$Routines") (T := T_Ro) (N := 8) hx hb hts in_Ro hown hK hI 3 kC_3 rfl 2 (by decide) (hts _ mw_84) rfl d_Ro_demandRoom_1 (fun z18 hz18 => ?_)
  refine sn_bipush hx hb d_Ro_demandRoom_4 (by decide) (fun z19 hz19 => ?_)
  refine sn_icmp_lt (tgt := 17) hx hb d_Ro_demandRoom_6 (by decide) (fun b20 => ?_) (fun b20 => ?_)
  · subst hZ
    exact tz_ret (W.vret hx hb hr (fun t ht hW => ⟨⟨fun v9 hv9 => by cases hv9; exact (⟨rfl, hok, by omega, by rw [ht]; exact hI.1⟩), fun x9 hx9 => (by cases hx9)⟩, hI.2.F ht⟩) hI.2.2.2 d_Ro_demandRoom_17)
  · refine W.widen (k := 0) (n := 0) (Nat.le_of_ble_eq_true rfl) (Nat.le_of_ble_eq_true rfl) ?_
    subst hZ
    exact tz_thrown (tth_Ro_IllegalStateException hx hb hfl hown hts (hst _ _ hI.2) (by rw [hml]; exact hl.1) d_Ro_demandRoom_9 d_Ro_demandRoom_12 d_Ro_demandRoom_13 d_Ro_demandRoom_16 (tx_noH B (hts _ mw_876) _) (Nat.le_of_ble_eq_true rfl) (Nat.le_of_ble_eq_true rfl) (Nat.le_of_ble_eq_true rfl) (Nat.le_of_ble_eq_true rfl) (fun t ce hW hz hk hce hcl hvm => ⟨⟨⟨fun v9 hv9 => (by cases hv9), fun x9 hx9 => by cases hx9; exact (⟨⟨ce, hce, hcl, hvm⟩, hok, by omega, sh_kept hI.1 hk⟩)⟩, ta_thrown hI.2 hz hk⟩, _, rfl⟩) hI.2.2.2 hlocks)
abbrev q_Ro_openn (dC : Nat → ClassId) (dI : Nat → Nat → Nat) (cI cJ : ClassId) (a : Nat → Nat) (he dp co li op wd tl lc : Int) (sf lf : Nat → Int32) (x2 : Int32) (x3 : Int32) (x4 : Int32) : Outcome → State → Prop := fun o t => (∀ v, o = .returned v → ((∃ (dp_ : Int), v = none ∧ okC he dp_ co li op wd tl lc sf lf ∧ dp ≤ 9 ∧ 1 ≤ dp_ ∧ sh_I (dC, dI) vcl cI cJ (gsC a he dp_ co li op wd tl lc sf lf) t.heap))) ∧ (∀ x, o = .threw x → ((ta_Ex "java/lang/IllegalStateException" x t ∧ okC he dp co li op wd tl lc sf lf ∧ 10 ≤ dp ∧ sh_I (dC, dI) vcl cI cJ (gsC a he dp co li op wd tl lc sf lf) t.heap)))
def rm_Ro_openn : Room := { frames := 8, cells := 1, slots := 6, locals := 150 }
set_option maxHeartbeats 4000000 in
set_option maxRecDepth 100000 in
theorem c_Ro_openn (l : Launch) (hfl : l.flags = pinnedFlags ++ [noTraceFlag]) (dC : Nat → ClassId) (dI : Nat → Nat → Nat) (cI cJ : ClassId) (a : Nat → Nat) (sz : Nat) (he dp co li op wd tl lc : Int) (sf lf : Nat → Int32) (x2 : Int32) (x3 : Int32) (x4 : Int32) (hok : okC he dp co li op wd tl lc sf lf) (hp0 : 0 ≤ x2.toInt) (hp1 : x2.toInt ≤ 15) : tz_Met l ⟨"StoryMachine$Routines", "open", "([IIII)V"⟩ tw_tbl rm_Ro_openn (tzP (dC, dI) vcl cI cJ (gsC a he dp co li op wd tl lc sf lf) (adC a) [.ref (a 3), .ref (a 21), .int x2, .int x3, .int x4] sz) (tq_Q (q_Ro_openn dC dI cI cJ a he dp co li op wd tl lc sf lf x2 x3 x4) (ga (adC a) sz)) 0 0 1 6 (ga (adC a) sz) := by
  refine tz_ofW (cc := prog_9_method_11_code) (maxL := 5) (ret := none) (by decide) (tx_isM mw_881) ?_
  intro p e s m args below meth c s₁ B hml hv
  obtain ⟨rfl, hsz, hI0, hK, hst0⟩ := hv
  have hx := B.exec
  have hb := B.bytes
  have hr := B.returns
  have hts := atoms_spec (ws := tw_tbl) B.pre
  have hown : s.vm.findClass "StoryMachine$Routines" = some m.cls := findClass_of_methodNamed B.named
  have hlocks := B.notSynchronized
  subst hsz
  have hst := fun (H : Heap) (locs : List Loc) (hS : va_S (ga (adC a) s.heap.size) s.heap H locs) (U : State) (hU : U.heap = H) (hW : s.WarmedH U.vm) => zS_all adC_map hI0 hst0 hS hU hW
  have hAC : ∀ q ∈ adC a, ga (adC a) s.heap.size q := fun q h => Or.inl h
  have hA0 : ∀ q, s.heap.size ≤ q → ga (adC a) s.heap.size q := fun q h => Or.inr h
  have hI : sI (dC, dI) vcl cI cJ (gsC a he dp co li op wd tl lc sf lf) (ga (adC a) s.heap.size) s.heap s.heap [] := ⟨hI0, va_S.rf⟩
  clear hI0 hst0
  have hl := lv_entry ([.ref (a 3), .ref (a 21), .int x2, .int x3, .int x4]) (n := 5) (Nat.le_of_ble_eq_true rfl)
  rw [lg_entry_eq]
  generalize (lg_sl ([.ref (a 3), .ref (a 21), .int x2, .int x3, .int x4]) ++ List.replicate (5 - (lg_sl ([.ref (a 3), .ref (a 21), .int x2, .int x3, .int x4])).length) Slot.unset).toArray = ls at hl ⊢
  have hl : lv_has ls 5 [(0, .ref (a 3)), (1, .ref (a 21)), (2, .int x2), (3, .int x3), (4, .int x4)] := hl
  generalize hZ : tz_MQ below (tq_Q (q_Ro_openn dC dI cI cJ a he dp co li op wd tl lc sf lf x2 x3 x4) (ga (adC a) s.heap.size)) ([.ref (a 3), .ref (a 21), .int x2, .int x3, .int x4] : List Value).toArray s 0 0 1 6 (ga (adC a) s.heap.size) = Z
  obtain ⟨A, hAe⟩ : ∃ A, A = ga (adC a) s.heap.size := ⟨_, rfl⟩
  rw [← hAe] at hst hAC hA0 hI hZ
  refine sv_start hI (fun H locs hI => ?_)
  obtain ⟨⟨o1, o2⟩, ⟨o3, o4⟩, ⟨o5, o6⟩, ⟨o7, o8⟩, ⟨o9, o10⟩, ⟨o11, o12⟩, ⟨o13, o14⟩, ⟨o15, o16⟩, o17, -⟩ := id hok
  have gx2 := sn_rng x2
  have gx3 := sn_rng x3
  have gx4 := sn_rng x4
  refine lv_aload_n hx hb d_Ro_open_0 rfl (lv_at hl 0 rfl) ?_
  refine tz_call (A1 := ga (adC a) H.size) (tz_runV (C := "StoryMachine$Routines") (As := []) (rest := []) ⟨hx, hb, hml, hown, hts⟩ (c_Ro_demandRoom l hfl dC dI cI cJ a H.size he dp co li op wd tl lc sf lf  hok) (tx_cb (n := 0) hts rfl rfl ⟨Nat.le_of_ble_eq_true rfl, Nat.le_of_ble_eq_true rfl⟩ (tx_code.of (hts _ mw_876)) (hts _ mw_4) (by decide +kernel) (hts _ mw_882)) (hts _ mw_874) (hts _ mw_875) ⟨tz_blind, sv_recv (q0 := 3) hts in_Ro hK hI kC_3 rfl, fun U hU hW => ⟨rfl, by rw [hU], by rw [hU]; exact hI.1, va_K.moved hW.alike hK, hst _ _ hI.2 U hU hW⟩⟩ rfl rfl hl.1 rfl (lv_room (Nat.le_of_ble_eq_true rfl)) d_Ro_open_1 ⟨Nat.le_of_ble_eq_true rfl, Nat.le_of_ble_eq_true rfl⟩) hI.2 (fun q _ h => ga_sub hAC hA0 hI.2 q h) (ga_sub hAC hA0 hI.2) (fun v t H1 locs1 ht hWt hpost _ _ hS => ?_) (fun x t H1 locs1 ht hWt hpost _ _ hS => ?_)
  · rcases hpost.1 _ rfl with ⟨hv, c18, c18_0, hI1⟩
    cases hv
    have hI : sI (dC, dI) vcl cI cJ (gsC a he dp co li op wd tl lc sf lf) A s.heap H1 locs1 := ⟨by rw [← ht]; exact hI1, hS⟩
    clear hpost hI1 hS ht hWt
    revert hI; generalize H1 = H; generalize locs1 = locs; intro hI
    refine lv_aload_n hx hb d_Ro_open_4 rfl (lv_at hl 0 rfl) ?_
    refine lv_dup hx hb d_Ro_open_5 rfl ?_
    refine sv_gete (C := "StoryMachine$Routines") (T := T_Ro) (N := 8) hx hb hts in_Ro hown hK hI 3 kC_3 rfl 2 (by decide) (hts _ mw_84) rfl d_Ro_open_6 (fun z19 hz19 => ?_)
    refine sn_iconst hx hb d_Ro_open_9 (by decide) (fun z20 hz20 => ?_)
    refine sn_iadd hx hb d_Ro_open_10 (by omega) (by omega) (fun z21 hz21 => ?_)
    refine sv_put (C := "StoryMachine$Routines") (T := T_Ro) (N := 8) (ty := .int) hx hb hts in_Ro t_Ro tk_Ro nm_Ro hown hK (sh_in adC_map hAC) hI 3 kC_3 rfl 2 (by decide) (hts _ mw_84) rfl (by decide +kernel) rfl rfl (Nat.le_of_ble_eq_true rfl) (Int.le_refl _) (Int.le_refl _) pC_3_2 d_Ro_open_11 (fun H locs hI => ?_)
    refine lv_aload_n hx hb d_Ro_open_14 rfl (lv_at hl 0 rfl) ?_
    refine sv_getr (C := "StoryMachine$Routines") (T := T_Ro) (N := 8) hx hb hts in_Ro hown hK hI 3 kC_3 rfl 3 (by decide) (hts _ mw_86) rfl d_Ro_open_15 ?_
    refine lv_aload_n hx hb d_Ro_open_18 rfl (lv_at hl 0 rfl) ?_
    refine sv_gete (C := "StoryMachine$Routines") (T := T_Ro) (N := 8) hx hb hts in_Ro hown hK hI 3 kC_3 rfl 2 (by decide) (hts _ mw_84) rfl d_Ro_open_19 (fun z22 hz22 => ?_)
    refine lv_aload_n hx hb d_Ro_open_22 rfl (lv_at hl 0 rfl) ?_
    refine sv_gete (C := "StoryMachine$Routines") (T := T_Ro) (N := 8) hx hb hts in_Ro hown hK hI 3 kC_3 rfl 1 (by decide) (hts _ mw_82) rfl d_Ro_open_23 (fun z23 hz23 => ?_)
    refine sv_iastr hx hb hK (sh_in adC_map hAC) hI 10 kC_10 (by omega) (by omega) (by omega) (by omega) pC_10 d_Ro_open_26 (fun H locs hI => ?_)
    refine lv_aload_n hx hb d_Ro_open_27 rfl (lv_at hl 0 rfl) ?_
    refine sv_getr (C := "StoryMachine$Routines") (T := T_Ro) (N := 8) hx hb hts in_Ro hown hK hI 3 kC_3 rfl 4 (by decide) (hts _ mw_87) rfl d_Ro_open_28 ?_
    refine lv_aload_n hx hb d_Ro_open_31 rfl (lv_at hl 0 rfl) ?_
    refine sv_gete (C := "StoryMachine$Routines") (T := T_Ro) (N := 8) hx hb hts in_Ro hown hK hI 3 kC_3 rfl 2 (by decide) (hts _ mw_84) rfl d_Ro_open_32 (fun z24 hz24 => ?_)
    refine lv_iload_n hx hb d_Ro_open_35 rfl (lv_at hl 3 rfl) ?_
    refine sv_iastr hx hb hK (sh_in adC_map hAC) hI 11 kC_11 (by omega) (by omega) (by omega) (by omega) pC_11 d_Ro_open_36 (fun H locs hI => ?_)
    refine lv_aload_n hx hb d_Ro_open_37 rfl (lv_at hl 0 rfl) ?_
    refine sv_getr (C := "StoryMachine$Routines") (T := T_Ro) (N := 8) hx hb hts in_Ro hown hK hI 3 kC_3 rfl 5 (by decide) (hts _ mw_88) rfl d_Ro_open_38 ?_
    refine lv_aload_n hx hb d_Ro_open_41 rfl (lv_at hl 0 rfl) ?_
    refine sv_gete (C := "StoryMachine$Routines") (T := T_Ro) (N := 8) hx hb hts in_Ro hown hK hI 3 kC_3 rfl 2 (by decide) (hts _ mw_84) rfl d_Ro_open_42 (fun z25 hz25 => ?_)
    refine lv_iload hx hb d_Ro_open_45 (lv_at hl 4 rfl) ?_
    refine sv_iastr hx hb hK (sh_in adC_map hAC) hI 12 kC_12 (by omega) (by omega) (by omega) (by omega) pC_12 d_Ro_open_47 (fun H locs hI => ?_)
    refine lv_aload_n hx hb d_Ro_open_48 rfl (lv_at hl 0 rfl) ?_
    refine sv_getr (C := "StoryMachine$Routines") (T := T_Ro) (N := 8) hx hb hts in_Ro hown hK hI 3 kC_3 rfl 6 (by decide) (hts _ mw_89) rfl d_Ro_open_49 ?_
    refine lv_aload_n hx hb d_Ro_open_52 rfl (lv_at hl 0 rfl) ?_
    refine sv_gete (C := "StoryMachine$Routines") (T := T_Ro) (N := 8) hx hb hts in_Ro hown hK hI 3 kC_3 rfl 2 (by decide) (hts _ mw_84) rfl d_Ro_open_53 (fun z26 hz26 => ?_)
    refine lv_iload_n hx hb d_Ro_open_56 rfl (lv_at hl 2 rfl) ?_
    refine sv_iastr hx hb hK (sh_in adC_map hAC) hI 13 kC_13 (by omega) (by omega) (by omega) (by omega) pC_13 d_Ro_open_57 (fun H locs hI => ?_)
    refine lv_aload_n hx hb d_Ro_open_58 rfl (lv_at hl 1 rfl) ?_
    refine sn_iconst hx hb d_Ro_open_59 (by decide) (fun z27 hz27 => ?_)
    refine lv_aload_n hx hb d_Ro_open_60 rfl (lv_at hl 0 rfl) ?_
    refine sv_getr (C := "StoryMachine$Routines") (T := T_Ro) (N := 8) hx hb hts in_Ro hown hK hI 3 kC_3 rfl 7 (by decide) (hts _ mw_90) rfl d_Ro_open_61 ?_
    refine lv_aload_n hx hb d_Ro_open_64 rfl (lv_at hl 0 rfl) ?_
    refine sv_gete (C := "StoryMachine$Routines") (T := T_Ro) (N := 8) hx hb hts in_Ro hown hK hI 3 kC_3 rfl 2 (by decide) (hts _ mw_84) rfl d_Ro_open_65 (fun z28 hz28 => ?_)
    refine sn_bipush hx hb d_Ro_open_68 (by decide) (fun z29 hz29 => ?_)
    refine sn_imulR (k := 15) hx hb d_Ro_open_70 (by omega) (by omega) (by omega) (fun z30 hz30 => ?_)
    refine lv_iload_n hx hb d_Ro_open_71 rfl (lv_at hl 2 rfl) ?_
    refine sj_copy hx hb (by rw [hml]; exact hl.1.symm) hown (hts _ mw_722) (hts _ mw_717) (hts _ mw_716) (hts _ mw_23) hK (sh_in adC_map hAC) hI 21 14 kC_21 kC_14 (by omega) (by omega) (by omega) (by omega) (by omega) (Nat.le_of_ble_eq_true rfl) (Nat.le_of_ble_eq_true rfl) pC_14 d_Ro_open_72 (fun H locs hI => ?_)
    have ho31 : okC he z21.toInt co li op wd tl lc sf lf := ⟨c18.1, ⟨by omega, by omega⟩, c18.2.2.1, c18.2.2.2.1, c18.2.2.2.2.1, c18.2.2.2.2.2.1, c18.2.2.2.2.2.2.1, c18.2.2.2.2.2.2.2.1, c18.2.2.2.2.2.2.2.2.1, c18.2.2.2.2.2.2.2.2.2⟩
    subst hZ
    exact tz_ret (W.vret hx hb hr (fun t ht hW => ⟨⟨fun v9 hv9 => by cases hv9; exact (⟨z21.toInt, rfl, ho31, by omega, by omega, by rw [ht]; exact hI.1⟩), fun x9 hx9 => (by cases hx9)⟩, hI.2.F ht⟩) hI.2.2.2 d_Ro_open_75)
  · rcases hpost.2 _ rfl with ⟨hex, c32, c32_0, hI1⟩
    have hI : sI (dC, dI) vcl cI cJ (gsC a he dp co li op wd tl lc sf lf) A s.heap H1 locs1 := ⟨by rw [← ht]; exact hI1, hS⟩
    refine tz_widen (k := 1) (n := 6) (Nat.le_of_ble_eq_true rfl) (Nat.le_of_ble_eq_true rfl) ?_
    subst hZ
    exact tz_leave (tx_noH B (hts _ mw_881) _) (fun t9 ht9 hW9 => ⟨⟨fun v9 hv9 => (by cases hv9), fun x9 hx9 => by cases hx9; exact (⟨ta_exm hex ht ht9 hWt hW9, c32, by omega, by rw [ht9]; exact hI.1⟩)⟩, hI.2.F ht9⟩) hI.2.2.2 hlocks
abbrev q_Ro_behind (dC : Nat → ClassId) (dI : Nat → Nat → Nat) (cI cJ : ClassId) (a : Nat → Nat) (he dp co li op wd tl lc : Int) (sf lf : Nat → Int32) : Outcome → State → Prop := fun o t => (∀ v, o = .returned v → ((∃ (z : Int32), v = some (.int z) ∧ okC he dp co li op wd tl lc sf lf ∧ (-2147483648) ≤ z.toInt ∧ z.toInt ≤ 2147483647 ∧ sh_I (dC, dI) vcl cI cJ (gsC a he dp co li op wd tl lc sf lf) t.heap))) ∧ (∀ x, o = .threw x → (False))
def rm_Ro_behind : Room := { frames := 0, cells := 0, slots := 0, locals := 0 }
set_option maxHeartbeats 4000000 in
set_option maxRecDepth 100000 in
theorem c_Ro_behind (l : Launch) (hfl : l.flags = pinnedFlags ++ [noTraceFlag]) (dC : Nat → ClassId) (dI : Nat → Nat → Nat) (cI cJ : ClassId) (a : Nat → Nat) (sz : Nat) (he dp co li op wd tl lc : Int) (sf lf : Nat → Int32) (hok : okC he dp co li op wd tl lc sf lf) : tz_Met l ⟨"StoryMachine$Routines", "behind", "()I"⟩ tw_tbl rm_Ro_behind (tzP (dC, dI) vcl cI cJ (gsC a he dp co li op wd tl lc sf lf) (adC a) [.ref (a 3)] sz) (tq_Q (q_Ro_behind dC dI cI cJ a he dp co li op wd tl lc sf lf) (ga (adC a) sz)) 0 0 0 0 (ga (adC a) sz) := by
  refine tz_ofW (cc := prog_9_method_12_code) (maxL := 1) (ret := (some .int)) (by decide) (tx_isM mw_611) ?_
  intro p e s m args below meth c s₁ B hml hv
  obtain ⟨rfl, hsz, hI0, hK, hst0⟩ := hv
  have hx := B.exec
  have hb := B.bytes
  have hr := B.returns
  have hts := atoms_spec (ws := tw_tbl) B.pre
  have hown : s.vm.findClass "StoryMachine$Routines" = some m.cls := findClass_of_methodNamed B.named
  have hlocks := B.notSynchronized
  subst hsz
  have hst := fun (H : Heap) (locs : List Loc) (hS : va_S (ga (adC a) s.heap.size) s.heap H locs) (U : State) (hU : U.heap = H) (hW : s.WarmedH U.vm) => zS_all adC_map hI0 hst0 hS hU hW
  have hAC : ∀ q ∈ adC a, ga (adC a) s.heap.size q := fun q h => Or.inl h
  have hA0 : ∀ q, s.heap.size ≤ q → ga (adC a) s.heap.size q := fun q h => Or.inr h
  have hI : sI (dC, dI) vcl cI cJ (gsC a he dp co li op wd tl lc sf lf) (ga (adC a) s.heap.size) s.heap s.heap [] := ⟨hI0, va_S.rf⟩
  clear hI0 hst0
  have hl := lv_entry ([.ref (a 3)]) (n := 1) (Nat.le_of_ble_eq_true rfl)
  rw [lg_entry_eq]
  generalize (lg_sl ([.ref (a 3)]) ++ List.replicate (1 - (lg_sl ([.ref (a 3)])).length) Slot.unset).toArray = ls at hl ⊢
  have hl : lv_has ls 1 [(0, .ref (a 3))] := hl
  generalize hZ : tz_MQ below (tq_Q (q_Ro_behind dC dI cI cJ a he dp co li op wd tl lc sf lf) (ga (adC a) s.heap.size)) ([.ref (a 3)] : List Value).toArray s 0 0 0 0 (ga (adC a) s.heap.size) = Z
  obtain ⟨A, hAe⟩ : ∃ A, A = ga (adC a) s.heap.size := ⟨_, rfl⟩
  rw [← hAe] at hst hAC hA0 hI hZ
  refine sv_start hI (fun H locs hI => ?_)
  obtain ⟨⟨o1, o2⟩, ⟨o3, o4⟩, ⟨o5, o6⟩, ⟨o7, o8⟩, ⟨o9, o10⟩, ⟨o11, o12⟩, ⟨o13, o14⟩, ⟨o15, o16⟩, o17, -⟩ := id hok
  refine lv_aload_n hx hb d_Ro_behind_0 rfl (lv_at hl 0 rfl) ?_
  refine sv_getr (C := "StoryMachine$Routines") (T := T_Ro) (N := 8) hx hb hts in_Ro hown hK hI 3 kC_3 rfl 4 (by decide) (hts _ mw_87) rfl d_Ro_behind_1 ?_
  refine lv_aload_n hx hb d_Ro_behind_4 rfl (lv_at hl 0 rfl) ?_
  refine sv_gete (C := "StoryMachine$Routines") (T := T_Ro) (N := 8) hx hb hts in_Ro hown hK hI 3 kC_3 rfl 2 (by decide) (hts _ mw_84) rfl d_Ro_behind_5 (fun z18 hz18 => ?_)
  refine sv_ialdr hx hb hK hI 11 kC_11 (by omega) (by omega) d_Ro_behind_8 (fun z19 hz19a hz19b => ?_)
  subst hZ
  exact tz_ret (W.iret (v := z19) hx hb hr (fun t ht hW => ⟨⟨fun v9 hv9 => by cases hv9; exact (⟨z19, rfl, hok, by omega, by omega, by rw [ht]; exact hI.1⟩), fun x9 hx9 => (by cases hx9)⟩, hI.2.F ht⟩) hI.2.2.2 d_Ro_behind_9)
abbrev q_Ro_result (dC : Nat → ClassId) (dI : Nat → Nat → Nat) (cI cJ : ClassId) (a : Nat → Nat) (he dp co li op wd tl lc : Int) (sf lf : Nat → Int32) : Outcome → State → Prop := fun o t => (∀ v, o = .returned v → ((∃ (z : Int32), v = some (.int z) ∧ okC he dp co li op wd tl lc sf lf ∧ (-2147483648) ≤ z.toInt ∧ z.toInt ≤ 2147483647 ∧ sh_I (dC, dI) vcl cI cJ (gsC a he dp co li op wd tl lc sf lf) t.heap))) ∧ (∀ x, o = .threw x → (False))
def rm_Ro_result : Room := { frames := 0, cells := 0, slots := 0, locals := 0 }
set_option maxHeartbeats 4000000 in
set_option maxRecDepth 100000 in
theorem c_Ro_result (l : Launch) (hfl : l.flags = pinnedFlags ++ [noTraceFlag]) (dC : Nat → ClassId) (dI : Nat → Nat → Nat) (cI cJ : ClassId) (a : Nat → Nat) (sz : Nat) (he dp co li op wd tl lc : Int) (sf lf : Nat → Int32) (hok : okC he dp co li op wd tl lc sf lf) : tz_Met l ⟨"StoryMachine$Routines", "result", "()I"⟩ tw_tbl rm_Ro_result (tzP (dC, dI) vcl cI cJ (gsC a he dp co li op wd tl lc sf lf) (adC a) [.ref (a 3)] sz) (tq_Q (q_Ro_result dC dI cI cJ a he dp co li op wd tl lc sf lf) (ga (adC a) sz)) 0 0 0 0 (ga (adC a) sz) := by
  refine tz_ofW (cc := prog_9_method_13_code) (maxL := 1) (ret := (some .int)) (by decide) (tx_isM mw_607) ?_
  intro p e s m args below meth c s₁ B hml hv
  obtain ⟨rfl, hsz, hI0, hK, hst0⟩ := hv
  have hx := B.exec
  have hb := B.bytes
  have hr := B.returns
  have hts := atoms_spec (ws := tw_tbl) B.pre
  have hown : s.vm.findClass "StoryMachine$Routines" = some m.cls := findClass_of_methodNamed B.named
  have hlocks := B.notSynchronized
  subst hsz
  have hst := fun (H : Heap) (locs : List Loc) (hS : va_S (ga (adC a) s.heap.size) s.heap H locs) (U : State) (hU : U.heap = H) (hW : s.WarmedH U.vm) => zS_all adC_map hI0 hst0 hS hU hW
  have hAC : ∀ q ∈ adC a, ga (adC a) s.heap.size q := fun q h => Or.inl h
  have hA0 : ∀ q, s.heap.size ≤ q → ga (adC a) s.heap.size q := fun q h => Or.inr h
  have hI : sI (dC, dI) vcl cI cJ (gsC a he dp co li op wd tl lc sf lf) (ga (adC a) s.heap.size) s.heap s.heap [] := ⟨hI0, va_S.rf⟩
  clear hI0 hst0
  have hl := lv_entry ([.ref (a 3)]) (n := 1) (Nat.le_of_ble_eq_true rfl)
  rw [lg_entry_eq]
  generalize (lg_sl ([.ref (a 3)]) ++ List.replicate (1 - (lg_sl ([.ref (a 3)])).length) Slot.unset).toArray = ls at hl ⊢
  have hl : lv_has ls 1 [(0, .ref (a 3))] := hl
  generalize hZ : tz_MQ below (tq_Q (q_Ro_result dC dI cI cJ a he dp co li op wd tl lc sf lf) (ga (adC a) s.heap.size)) ([.ref (a 3)] : List Value).toArray s 0 0 0 0 (ga (adC a) s.heap.size) = Z
  obtain ⟨A, hAe⟩ : ∃ A, A = ga (adC a) s.heap.size := ⟨_, rfl⟩
  rw [← hAe] at hst hAC hA0 hI hZ
  refine sv_start hI (fun H locs hI => ?_)
  obtain ⟨⟨o1, o2⟩, ⟨o3, o4⟩, ⟨o5, o6⟩, ⟨o7, o8⟩, ⟨o9, o10⟩, ⟨o11, o12⟩, ⟨o13, o14⟩, ⟨o15, o16⟩, o17, -⟩ := id hok
  refine lv_aload_n hx hb d_Ro_result_0 rfl (lv_at hl 0 rfl) ?_
  refine sv_getr (C := "StoryMachine$Routines") (T := T_Ro) (N := 8) hx hb hts in_Ro hown hK hI 3 kC_3 rfl 5 (by decide) (hts _ mw_88) rfl d_Ro_result_1 ?_
  refine lv_aload_n hx hb d_Ro_result_4 rfl (lv_at hl 0 rfl) ?_
  refine sv_gete (C := "StoryMachine$Routines") (T := T_Ro) (N := 8) hx hb hts in_Ro hown hK hI 3 kC_3 rfl 2 (by decide) (hts _ mw_84) rfl d_Ro_result_5 (fun z18 hz18 => ?_)
  refine sv_ialdr hx hb hK hI 12 kC_12 (by omega) (by omega) d_Ro_result_8 (fun z19 hz19a hz19b => ?_)
  subst hZ
  exact tz_ret (W.iret (v := z19) hx hb hr (fun t ht hW => ⟨⟨fun v9 hv9 => by cases hv9; exact (⟨z19, rfl, hok, by omega, by omega, by rw [ht]; exact hI.1⟩), fun x9 hx9 => (by cases hx9)⟩, hI.2.F ht⟩) hI.2.2.2 d_Ro_result_9)
abbrev q_Ro_close (dC : Nat → ClassId) (dI : Nat → Nat → Nat) (cI cJ : ClassId) (a : Nat → Nat) (he dp co li op wd tl lc : Int) (sf lf : Nat → Int32) : Outcome → State → Prop := fun o t => (∀ v, o = .returned v → ((∃ (he_ dp_ : Int), v = none ∧ okC he_ dp_ co li op wd tl lc sf lf ∧ 1 ≤ dp ∧ dp_ ≤ 9 ∧ sh_I (dC, dI) vcl cI cJ (gsC a he_ dp_ co li op wd tl lc sf lf) t.heap))) ∧ (∀ x, o = .threw x → ((ta_Ex "java/lang/IllegalArgumentException" x t ∧ okC he dp co li op wd tl lc sf lf ∧ dp ≤ 0 ∧ sh_I (dC, dI) vcl cI cJ (gsC a he dp co li op wd tl lc sf lf) t.heap)))
def rm_Ro_close : Room := { frames := 7, cells := 1, slots := 6, locals := 130 }
set_option maxHeartbeats 4000000 in
set_option maxRecDepth 100000 in
theorem c_Ro_close (l : Launch) (hfl : l.flags = pinnedFlags ++ [noTraceFlag]) (dC : Nat → ClassId) (dI : Nat → Nat → Nat) (cI cJ : ClassId) (a : Nat → Nat) (sz : Nat) (he dp co li op wd tl lc : Int) (sf lf : Nat → Int32) (hok : okC he dp co li op wd tl lc sf lf) : tz_Met l ⟨"StoryMachine$Routines", "close", "()V"⟩ tw_tbl rm_Ro_close (tzP (dC, dI) vcl cI cJ (gsC a he dp co li op wd tl lc sf lf) (adC a) [.ref (a 3)] sz) (tq_Q (q_Ro_close dC dI cI cJ a he dp co li op wd tl lc sf lf) (ga (adC a) sz)) 0 0 1 6 (ga (adC a) sz) := by
  refine tz_ofW (cc := prog_9_method_14_code) (maxL := 1) (ret := none) (by decide) (tx_isM mw_615) ?_
  intro p e s m args below meth c s₁ B hml hv
  obtain ⟨rfl, hsz, hI0, hK, hst0⟩ := hv
  have hx := B.exec
  have hb := B.bytes
  have hr := B.returns
  have hts := atoms_spec (ws := tw_tbl) B.pre
  have hown : s.vm.findClass "StoryMachine$Routines" = some m.cls := findClass_of_methodNamed B.named
  have hlocks := B.notSynchronized
  subst hsz
  have hst := fun (H : Heap) (locs : List Loc) (hS : va_S (ga (adC a) s.heap.size) s.heap H locs) (U : State) (hU : U.heap = H) (hW : s.WarmedH U.vm) => zS_all adC_map hI0 hst0 hS hU hW
  have hAC : ∀ q ∈ adC a, ga (adC a) s.heap.size q := fun q h => Or.inl h
  have hA0 : ∀ q, s.heap.size ≤ q → ga (adC a) s.heap.size q := fun q h => Or.inr h
  have hI : sI (dC, dI) vcl cI cJ (gsC a he dp co li op wd tl lc sf lf) (ga (adC a) s.heap.size) s.heap s.heap [] := ⟨hI0, va_S.rf⟩
  clear hI0 hst0
  have hl := lv_entry ([.ref (a 3)]) (n := 1) (Nat.le_of_ble_eq_true rfl)
  rw [lg_entry_eq]
  generalize (lg_sl ([.ref (a 3)]) ++ List.replicate (1 - (lg_sl ([.ref (a 3)])).length) Slot.unset).toArray = ls at hl ⊢
  have hl : lv_has ls 1 [(0, .ref (a 3))] := hl
  generalize hZ : tz_MQ below (tq_Q (q_Ro_close dC dI cI cJ a he dp co li op wd tl lc sf lf) (ga (adC a) s.heap.size)) ([.ref (a 3)] : List Value).toArray s 0 0 1 6 (ga (adC a) s.heap.size) = Z
  obtain ⟨A, hAe⟩ : ∃ A, A = ga (adC a) s.heap.size := ⟨_, rfl⟩
  rw [← hAe] at hst hAC hA0 hI hZ
  refine sv_start hI (fun H locs hI => ?_)
  obtain ⟨⟨o1, o2⟩, ⟨o3, o4⟩, ⟨o5, o6⟩, ⟨o7, o8⟩, ⟨o9, o10⟩, ⟨o11, o12⟩, ⟨o13, o14⟩, ⟨o15, o16⟩, o17, -⟩ := id hok
  refine lv_aload_n hx hb d_Ro_close_0 rfl (lv_at hl 0 rfl) ?_
  refine sv_gete (C := "StoryMachine$Routines") (T := T_Ro) (N := 8) hx hb hts in_Ro hown hK hI 3 kC_3 rfl 2 (by decide) (hts _ mw_84) rfl d_Ro_close_1 (fun z18 hz18 => ?_)
  refine sn_if_ne (tgt := 15) hx hb d_Ro_close_4 (by decide) (fun b19 => ?_) (fun b19 => ?_)
  · refine lv_aload_n hx hb d_Ro_close_15 rfl (lv_at hl 0 rfl) ?_
    refine lv_aload_n hx hb d_Ro_close_16 rfl (lv_at hl 0 rfl) ?_
    refine sv_getr (C := "StoryMachine$Routines") (T := T_Ro) (N := 8) hx hb hts in_Ro hown hK hI 3 kC_3 rfl 3 (by decide) (hts _ mw_86) rfl d_Ro_close_17 ?_
    refine lv_aload_n hx hb d_Ro_close_20 rfl (lv_at hl 0 rfl) ?_
    refine sv_gete (C := "StoryMachine$Routines") (T := T_Ro) (N := 8) hx hb hts in_Ro hown hK hI 3 kC_3 rfl 2 (by decide) (hts _ mw_84) rfl d_Ro_close_21 (fun z20 hz20 => ?_)
    refine sv_ialdr hx hb hK hI 10 kC_10 (by omega) (by omega) d_Ro_close_24 (fun z21 hz21a hz21b => ?_)
    refine sv_put (C := "StoryMachine$Routines") (T := T_Ro) (N := 8) (ty := .int) hx hb hts in_Ro t_Ro tk_Ro nm_Ro hown hK (sh_in adC_map hAC) hI 3 kC_3 rfl 1 (by decide) (hts _ mw_82) rfl (by decide +kernel) rfl rfl (Nat.le_of_ble_eq_true rfl) (Int.le_refl _) (Int.le_refl _) pC_3_1 d_Ro_close_25 (fun H locs hI => ?_)
    refine lv_aload_n hx hb d_Ro_close_28 rfl (lv_at hl 0 rfl) ?_
    refine lv_dup hx hb d_Ro_close_29 rfl ?_
    refine sv_gete (C := "StoryMachine$Routines") (T := T_Ro) (N := 8) hx hb hts in_Ro hown hK hI 3 kC_3 rfl 2 (by decide) (hts _ mw_84) rfl d_Ro_close_30 (fun z22 hz22 => ?_)
    refine sn_iconst hx hb d_Ro_close_33 (by decide) (fun z23 hz23 => ?_)
    refine sn_isub hx hb d_Ro_close_34 (by omega) (by omega) (fun z24 hz24 => ?_)
    refine sv_put (C := "StoryMachine$Routines") (T := T_Ro) (N := 8) (ty := .int) hx hb hts in_Ro t_Ro tk_Ro nm_Ro hown hK (sh_in adC_map hAC) hI 3 kC_3 rfl 2 (by decide) (hts _ mw_84) rfl (by decide +kernel) rfl rfl (Nat.le_of_ble_eq_true rfl) (Int.le_refl _) (Int.le_refl _) pC_3_2 d_Ro_close_35 (fun H locs hI => ?_)
    have ho25 : okC z21.toInt z24.toInt co li op wd tl lc sf lf := ⟨⟨by omega, by omega⟩, ⟨by omega, by omega⟩, hok.2.2.1, hok.2.2.2.1, hok.2.2.2.2.1, hok.2.2.2.2.2.1, hok.2.2.2.2.2.2.1, hok.2.2.2.2.2.2.2.1, hok.2.2.2.2.2.2.2.2.1, hok.2.2.2.2.2.2.2.2.2⟩
    subst hZ
    exact tz_ret (W.vret hx hb hr (fun t ht hW => ⟨⟨fun v9 hv9 => by cases hv9; exact (⟨z21.toInt, z24.toInt, rfl, ho25, by omega, by omega, by rw [ht]; exact hI.1⟩), fun x9 hx9 => (by cases hx9)⟩, hI.2.F ht⟩) hI.2.2.2 d_Ro_close_38)
  · refine W.widen (k := 0) (n := 0) (Nat.le_of_ble_eq_true rfl) (Nat.le_of_ble_eq_true rfl) ?_
    subst hZ
    exact tz_thrown (tth_Ro_IllegalArgumentException hx hb hfl hown hts (hst _ _ hI.2) (by rw [hml]; exact hl.1) d_Ro_close_7 d_Ro_close_10 d_Ro_close_11 d_Ro_close_14 (tx_noH B (hts _ mw_615) _) (Nat.le_of_ble_eq_true rfl) (Nat.le_of_ble_eq_true rfl) (Nat.le_of_ble_eq_true rfl) (Nat.le_of_ble_eq_true rfl) (fun t ce hW hz hk hce hcl hvm => ⟨⟨⟨fun v9 hv9 => (by cases hv9), fun x9 hx9 => by cases hx9; exact (⟨⟨ce, hce, hcl, hvm⟩, hok, by omega, sh_kept hI.1 hk⟩)⟩, ta_thrown hI.2 hz hk⟩, _, rfl⟩) hI.2.2.2 hlocks)
abbrev q_Va_globalPlace (dC : Nat → ClassId) (dI : Nat → Nat → Nat) (cI cJ : ClassId) (a : Nat → Nat) (he dp co li op wd tl lc : Int) (sf lf : Nat → Int32) (x1 : Int32) : Outcome → State → Prop := fun o t => (∀ v, o = .returned v → ((∃ (z : Int32), v = some (.int z) ∧ okC he dp co li op wd tl lc sf lf ∧ (-2147483648) ≤ z.toInt ∧ z.toInt ≤ 2147483647 ∧ x1.toInt ≤ 47 ∧ sh_I (dC, dI) vcl cI cJ (gsC a he dp co li op wd tl lc sf lf) t.heap))) ∧ (∀ x, o = .threw x → ((ta_Ex "java/lang/IllegalArgumentException" x t ∧ okC he dp co li op wd tl lc sf lf ∧ sh_I (dC, dI) vcl cI cJ (gsC a he dp co li op wd tl lc sf lf) t.heap)))
def rm_Va_globalPlace : Room := { frames := 8, cells := 1, slots := 6, locals := 151 }
set_option maxHeartbeats 4000000 in
set_option maxRecDepth 100000 in
theorem c_Va_globalPlace (l : Launch) (hfl : l.flags = pinnedFlags ++ [noTraceFlag]) (dC : Nat → ClassId) (dI : Nat → Nat → Nat) (cI cJ : ClassId) (a : Nat → Nat) (sz : Nat) (he dp co li op wd tl lc : Int) (sf lf : Nat → Int32) (x1 : Int32) (hok : okC he dp co li op wd tl lc sf lf) : tz_Met l ⟨"StoryMachine$Variables", "globalPlace", "(I)I"⟩ tw_tbl rm_Va_globalPlace (tzP (dC, dI) vcl cI cJ (gsC a he dp co li op wd tl lc sf lf) (adC a) [.ref (a 16), .int x1] sz) (tq_Q (q_Va_globalPlace dC dI cI cJ a he dp co li op wd tl lc sf lf x1) (ga (adC a) sz)) 0 0 1 6 (ga (adC a) sz) := by
  refine tz_ofW (cc := prog_11_method_4_code) (maxL := 2) (ret := (some .int)) (by decide) (tx_isM mw_559) ?_
  intro p e s m args below meth c s₁ B hml hv
  obtain ⟨rfl, hsz, hI0, hK, hst0⟩ := hv
  have hx := B.exec
  have hb := B.bytes
  have hr := B.returns
  have hts := atoms_spec (ws := tw_tbl) B.pre
  have hown : s.vm.findClass "StoryMachine$Variables" = some m.cls := findClass_of_methodNamed B.named
  have hlocks := B.notSynchronized
  subst hsz
  have hst := fun (H : Heap) (locs : List Loc) (hS : va_S (ga (adC a) s.heap.size) s.heap H locs) (U : State) (hU : U.heap = H) (hW : s.WarmedH U.vm) => zS_all adC_map hI0 hst0 hS hU hW
  have hAC : ∀ q ∈ adC a, ga (adC a) s.heap.size q := fun q h => Or.inl h
  have hA0 : ∀ q, s.heap.size ≤ q → ga (adC a) s.heap.size q := fun q h => Or.inr h
  have hI : sI (dC, dI) vcl cI cJ (gsC a he dp co li op wd tl lc sf lf) (ga (adC a) s.heap.size) s.heap s.heap [] := ⟨hI0, va_S.rf⟩
  clear hI0 hst0
  have hl := lv_entry ([.ref (a 16), .int x1]) (n := 2) (Nat.le_of_ble_eq_true rfl)
  rw [lg_entry_eq]
  generalize (lg_sl ([.ref (a 16), .int x1]) ++ List.replicate (2 - (lg_sl ([.ref (a 16), .int x1])).length) Slot.unset).toArray = ls at hl ⊢
  have hl : lv_has ls 2 [(0, .ref (a 16)), (1, .int x1)] := hl
  generalize hZ : tz_MQ below (tq_Q (q_Va_globalPlace dC dI cI cJ a he dp co li op wd tl lc sf lf x1) (ga (adC a) s.heap.size)) ([.ref (a 16), .int x1] : List Value).toArray s 0 0 1 6 (ga (adC a) s.heap.size) = Z
  obtain ⟨A, hAe⟩ : ∃ A, A = ga (adC a) s.heap.size := ⟨_, rfl⟩
  rw [← hAe] at hst hAC hA0 hI hZ
  refine sv_start hI (fun H locs hI => ?_)
  obtain ⟨⟨o1, o2⟩, ⟨o3, o4⟩, ⟨o5, o6⟩, ⟨o7, o8⟩, ⟨o9, o10⟩, ⟨o11, o12⟩, ⟨o13, o14⟩, ⟨o15, o16⟩, o17, -⟩ := id hok
  have gx1 := sn_rng x1
  refine lv_iload_n hx hb d_Va_globalPlace_0 rfl (lv_at hl 1 rfl) ?_
  refine sn_bipush hx hb d_Va_globalPlace_1 (by decide) (fun z18 hz18 => ?_)
  refine sn_icmp_lt (tgt := 14) hx hb d_Va_globalPlace_3 (by decide) (fun b19 => ?_) (fun b19 => ?_)
  · refine lv_aload_n hx hb d_Va_globalPlace_14 rfl (lv_at hl 0 rfl) ?_
    refine sv_getr (C := "StoryMachine$Variables") (T := T_Va) (N := 2) hx hb hts in_Va hown hK hI 16 kC_16 rfl 0 (by decide) (hts _ mw_168) rfl d_Va_globalPlace_15 ?_
    refine sn_bipush hx hb d_Va_globalPlace_18 (by decide) (fun z20 hz20 => ?_)
    refine tz_call (A1 := ga (adC a) H.size) (tz_runV (C := "StoryMachine$Memory") (As := [.int z20]) (rest := []) ⟨hx, hb, hml, hown, hts⟩ (c_Me_wordAt l hfl dC dI cI cJ a H.size he dp co li op wd tl lc sf lf z20 hok) (tx_cb (n := 1) hts rfl rfl ⟨Nat.le_of_ble_eq_true rfl, Nat.le_of_ble_eq_true rfl⟩ (tx_code.of (hts _ mw_440)) (hts _ mw_2) (by decide +kernel) (hts _ mw_562)) (hts _ mw_438) (hts _ mw_439) ⟨tz_blind, sv_recv (q0 := 1) hts in_Me hK hI kC_1 rfl, fun U hU hW => ⟨rfl, by rw [hU], by rw [hU]; exact hI.1, va_K.moved hW.alike hK, hst _ _ hI.2 U hU hW⟩⟩ rfl rfl hl.1 rfl (lv_room (Nat.le_of_ble_eq_true rfl)) d_Va_globalPlace_20 ⟨Nat.le_of_ble_eq_true rfl, Nat.le_of_ble_eq_true rfl⟩) hI.2 (fun q _ h => ga_sub hAC hA0 hI.2 q h) (ga_sub hAC hA0 hI.2) (fun v t H1 locs1 ht hWt hpost _ _ hS => ?_) (fun x t H1 locs1 ht hWt hpost _ _ hS => ?_)
    · rcases hpost.1 _ rfl with ⟨z21, hv, c22, c22_0, c22_1, c22_2, c22_3, hI1⟩
      cases hv
      have hI : sI (dC, dI) vcl cI cJ (gsC a he dp co li op wd tl lc sf lf) A s.heap H1 locs1 := ⟨by rw [← ht]; exact hI1, hS⟩
      clear hpost hI1 hS ht hWt
      revert hI; generalize H1 = H; generalize locs1 = locs; intro hI
      refine sn_iconst hx hb d_Va_globalPlace_23 (by decide) (fun z23 hz23 => ?_)
      refine lv_iload_n hx hb d_Va_globalPlace_24 rfl (lv_at hl 1 rfl) ?_
      refine sn_bipush hx hb d_Va_globalPlace_25 (by decide) (fun z24 hz24 => ?_)
      refine sn_isubT hx hb d_Va_globalPlace_27 (fun z25 hz25a hz25b => ?_)
      refine sn_imulT hx hb d_Va_globalPlace_28 (fun z26 hz26a hz26b => ?_)
      refine sn_iaddT hx hb d_Va_globalPlace_29 (fun z27 hz27a hz27b => ?_)
      subst hZ
      exact tz_ret (W.iret (v := z27) hx hb hr (fun t ht hW => ⟨⟨fun v9 hv9 => by cases hv9; exact (⟨z27, rfl, c22, by omega, by omega, by omega, by rw [ht]; exact hI.1⟩), fun x9 hx9 => (by cases hx9)⟩, hI.2.F ht⟩) hI.2.2.2 d_Va_globalPlace_30)
    · rcases hpost.2 _ rfl with ⟨hex, c28, hI1⟩
      have hI : sI (dC, dI) vcl cI cJ (gsC a he dp co li op wd tl lc sf lf) A s.heap H1 locs1 := ⟨by rw [← ht]; exact hI1, hS⟩
      refine tz_widen (k := 1) (n := 6) (Nat.le_of_ble_eq_true rfl) (Nat.le_of_ble_eq_true rfl) ?_
      subst hZ
      exact tz_leave (tx_noH B (hts _ mw_559) _) (fun t9 ht9 hW9 => ⟨⟨fun v9 hv9 => (by cases hv9), fun x9 hx9 => by cases hx9; exact (⟨ta_exm hex ht ht9 hWt hW9, c28, by rw [ht9]; exact hI.1⟩)⟩, hI.2.F ht9⟩) hI.2.2.2 hlocks
  · refine W.widen (k := 0) (n := 0) (Nat.le_of_ble_eq_true rfl) (Nat.le_of_ble_eq_true rfl) ?_
    subst hZ
    exact tz_thrown (tth_Va_IllegalArgumentException hx hb hfl hown hts (hst _ _ hI.2) (by rw [hml]; exact hl.1) d_Va_globalPlace_6 d_Va_globalPlace_9 d_Va_globalPlace_10 d_Va_globalPlace_13 (tx_noH B (hts _ mw_559) _) (Nat.le_of_ble_eq_true rfl) (Nat.le_of_ble_eq_true rfl) (Nat.le_of_ble_eq_true rfl) (Nat.le_of_ble_eq_true rfl) (fun t ce hW hz hk hce hcl hvm => ⟨⟨⟨fun v9 hv9 => (by cases hv9), fun x9 hx9 => by cases hx9; exact (⟨⟨ce, hce, hcl, hvm⟩, hok, sh_kept hI.1 hk⟩)⟩, ta_thrown hI.2 hz hk⟩, _, rfl⟩) hI.2.2.2 hlocks)
abbrev q_Va_read (dC : Nat → ClassId) (dI : Nat → Nat → Nat) (cI cJ : ClassId) (a : Nat → Nat) (he dp co li op wd tl lc : Int) (sf lf : Nat → Int32) (x1 : Int32) (x2 : Int32) : Outcome → State → Prop := fun o t => (∀ v, o = .returned v → ((∃ (z : Int32) (he_ : Int), v = some (.int z) ∧ okC he_ dp co li op wd tl lc sf lf ∧ 0 ≤ z.toInt ∧ z.toInt ≤ 65535 ∧ 0 ≤ x1.toInt ∧ x1.toInt ≤ 47 ∧ sh_I (dC, dI) vcl cI cJ (gsC a he_ dp co li op wd tl lc sf lf) t.heap))) ∧ (∀ x, o = .threw x → ((ta_Ex "java/lang/IllegalArgumentException" x t ∧ okC he dp co li op wd tl lc sf lf ∧ sh_I (dC, dI) vcl cI cJ (gsC a he dp co li op wd tl lc sf lf) t.heap) ∨ (ta_Ex "java/lang/IllegalStateException" x t ∧ okC he dp co li op wd tl lc sf lf ∧ 0 ≤ x1.toInt ∧ x1.toInt ≤ 0 ∧ sh_I (dC, dI) vcl cI cJ (gsC a he dp co li op wd tl lc sf lf) t.heap)))
def rm_Va_read : Room := { frames := 9, cells := 1, slots := 6, locals := 172 }
set_option maxHeartbeats 4000000 in
set_option maxRecDepth 100000 in
theorem c_Va_read (l : Launch) (hfl : l.flags = pinnedFlags ++ [noTraceFlag]) (dC : Nat → ClassId) (dI : Nat → Nat → Nat) (cI cJ : ClassId) (a : Nat → Nat) (sz : Nat) (he dp co li op wd tl lc : Int) (sf lf : Nat → Int32) (x1 : Int32) (x2 : Int32) (hok : okC he dp co li op wd tl lc sf lf) : tz_Met l ⟨"StoryMachine$Variables", "read", "(IZ)I"⟩ tw_tbl rm_Va_read (tzP (dC, dI) vcl cI cJ (gsC a he dp co li op wd tl lc sf lf) (adC a) [.ref (a 16), .int x1, .int x2] sz) (tq_Q (q_Va_read dC dI cI cJ a he dp co li op wd tl lc sf lf x1 x2) (ga (adC a) sz)) 0 0 1 6 (ga (adC a) sz) := by
  refine tz_ofW (cc := prog_11_method_2_code) (maxL := 3) (ret := (some .int)) (by decide) (tx_isM mw_538) ?_
  intro p e s m args below meth c s₁ B hml hv
  obtain ⟨rfl, hsz, hI0, hK, hst0⟩ := hv
  have hx := B.exec
  have hb := B.bytes
  have hr := B.returns
  have hts := atoms_spec (ws := tw_tbl) B.pre
  have hown : s.vm.findClass "StoryMachine$Variables" = some m.cls := findClass_of_methodNamed B.named
  have hlocks := B.notSynchronized
  subst hsz
  have hst := fun (H : Heap) (locs : List Loc) (hS : va_S (ga (adC a) s.heap.size) s.heap H locs) (U : State) (hU : U.heap = H) (hW : s.WarmedH U.vm) => zS_all adC_map hI0 hst0 hS hU hW
  have hAC : ∀ q ∈ adC a, ga (adC a) s.heap.size q := fun q h => Or.inl h
  have hA0 : ∀ q, s.heap.size ≤ q → ga (adC a) s.heap.size q := fun q h => Or.inr h
  have hI : sI (dC, dI) vcl cI cJ (gsC a he dp co li op wd tl lc sf lf) (ga (adC a) s.heap.size) s.heap s.heap [] := ⟨hI0, va_S.rf⟩
  clear hI0 hst0
  have hl := lv_entry ([.ref (a 16), .int x1, .int x2]) (n := 3) (Nat.le_of_ble_eq_true rfl)
  rw [lg_entry_eq]
  generalize (lg_sl ([.ref (a 16), .int x1, .int x2]) ++ List.replicate (3 - (lg_sl ([.ref (a 16), .int x1, .int x2])).length) Slot.unset).toArray = ls at hl ⊢
  have hl : lv_has ls 3 [(0, .ref (a 16)), (1, .int x1), (2, .int x2)] := hl
  generalize hZ : tz_MQ below (tq_Q (q_Va_read dC dI cI cJ a he dp co li op wd tl lc sf lf x1 x2) (ga (adC a) s.heap.size)) ([.ref (a 16), .int x1, .int x2] : List Value).toArray s 0 0 1 6 (ga (adC a) s.heap.size) = Z
  obtain ⟨A, hAe⟩ : ∃ A, A = ga (adC a) s.heap.size := ⟨_, rfl⟩
  rw [← hAe] at hst hAC hA0 hI hZ
  refine sv_start hI (fun H locs hI => ?_)
  obtain ⟨⟨o1, o2⟩, ⟨o3, o4⟩, ⟨o5, o6⟩, ⟨o7, o8⟩, ⟨o9, o10⟩, ⟨o11, o12⟩, ⟨o13, o14⟩, ⟨o15, o16⟩, o17, -⟩ := id hok
  have gx1 := sn_rng x1
  have gx2 := sn_rng x2
  refine lv_iload_n hx hb d_Va_read_0 rfl (lv_at hl 1 rfl) ?_
  refine sn_if_ne (tgt := 26) hx hb d_Va_read_1 (by decide) (fun b18 => ?_) (fun b18 => ?_)
  · refine lv_iload_n hx hb d_Va_read_26 rfl (lv_at hl 1 rfl) ?_
    refine sn_bipush hx hb d_Va_read_27 (by decide) (fun z19 hz19 => ?_)
    refine sn_icmp_ge (tgt := 41) hx hb d_Va_read_29 (by decide) (fun b20 => ?_) (fun b20 => ?_)
    · refine lv_aload_n hx hb d_Va_read_41 rfl (lv_at hl 0 rfl) ?_
      refine sv_getr (C := "StoryMachine$Variables") (T := T_Va) (N := 2) hx hb hts in_Va hown hK hI 16 kC_16 rfl 0 (by decide) (hts _ mw_168) rfl d_Va_read_42 ?_
      refine lv_aload_n hx hb d_Va_read_45 rfl (lv_at hl 0 rfl) ?_
      refine lv_iload_n hx hb d_Va_read_46 rfl (lv_at hl 1 rfl) ?_
      refine tz_call (A1 := ga (adC a) H.size) (tz_runV (C := "StoryMachine$Variables") (As := [.int x1]) (rest := [.ref (a 1)]) ⟨hx, hb, hml, hown, hts⟩ (c_Va_globalPlace l hfl dC dI cI cJ a H.size he dp co li op wd tl lc sf lf x1 hok) (tx_cb (n := 1) hts rfl rfl ⟨Nat.le_of_ble_eq_true rfl, Nat.le_of_ble_eq_true rfl⟩ (tx_code.of (hts _ mw_559)) (hts _ mw_8) (by decide +kernel) (hts _ mw_556)) (hts _ mw_558) (hts _ ms_Va_globalPlace) ⟨tz_blind, sv_recv (q0 := 16) hts in_Va hK hI kC_16 rfl, fun U hU hW => ⟨rfl, by rw [hU], by rw [hU]; exact hI.1, va_K.moved hW.alike hK, hst _ _ hI.2 U hU hW⟩⟩ rfl rfl hl.1 rfl (lv_room (Nat.le_of_ble_eq_true rfl)) d_Va_read_47 ⟨Nat.le_of_ble_eq_true rfl, Nat.le_of_ble_eq_true rfl⟩) hI.2 (fun q _ h => ga_sub hAC hA0 hI.2 q h) (ga_sub hAC hA0 hI.2) (fun v t H1 locs1 ht hWt hpost _ _ hS => ?_) (fun x t H1 locs1 ht hWt hpost _ _ hS => ?_)
      · rcases hpost.1 _ rfl with ⟨z21, hv, c22, c22_0, c22_1, c22_2, hI1⟩
        cases hv
        have hI : sI (dC, dI) vcl cI cJ (gsC a he dp co li op wd tl lc sf lf) A s.heap H1 locs1 := ⟨by rw [← ht]; exact hI1, hS⟩
        clear hpost hI1 hS ht hWt
        revert hI; generalize H1 = H; generalize locs1 = locs; intro hI
        refine tz_call (A1 := ga (adC a) H.size) (tz_runV (C := "StoryMachine$Memory") (As := [.int z21]) (rest := []) ⟨hx, hb, hml, hown, hts⟩ (c_Me_wordAt l hfl dC dI cI cJ a H.size he dp co li op wd tl lc sf lf z21 c22) (tx_cb (n := 1) hts rfl rfl ⟨Nat.le_of_ble_eq_true rfl, Nat.le_of_ble_eq_true rfl⟩ (tx_code.of (hts _ mw_440)) (hts _ mw_2) (by decide +kernel) (hts _ mw_562)) (hts _ mw_438) (hts _ mw_439) ⟨tz_blind, sv_recv (q0 := 1) hts in_Me hK hI kC_1 rfl, fun U hU hW => ⟨rfl, by rw [hU], by rw [hU]; exact hI.1, va_K.moved hW.alike hK, hst _ _ hI.2 U hU hW⟩⟩ rfl rfl hl.1 rfl (lv_room (Nat.le_of_ble_eq_true rfl)) d_Va_read_50 ⟨Nat.le_of_ble_eq_true rfl, Nat.le_of_ble_eq_true rfl⟩) hI.2 (fun q _ h => ga_sub hAC hA0 hI.2 q h) (ga_sub hAC hA0 hI.2) (fun v t H1 locs1 ht hWt hpost _ _ hS => ?_) (fun x t H1 locs1 ht hWt hpost _ _ hS => ?_)
        · rcases hpost.1 _ rfl with ⟨z23, hv, c24, c24_0, c24_1, c24_2, c24_3, hI1⟩
          cases hv
          have hI : sI (dC, dI) vcl cI cJ (gsC a he dp co li op wd tl lc sf lf) A s.heap H1 locs1 := ⟨by rw [← ht]; exact hI1, hS⟩
          clear hpost hI1 hS ht hWt
          revert hI; generalize H1 = H; generalize locs1 = locs; intro hI
          subst hZ
          exact tz_ret (W.iret (v := z23) hx hb hr (fun t ht hW => ⟨⟨fun v9 hv9 => by cases hv9; exact (⟨z23, he, rfl, c24, by omega, by omega, by omega, by omega, by rw [ht]; exact hI.1⟩), fun x9 hx9 => (by cases hx9)⟩, hI.2.F ht⟩) hI.2.2.2 d_Va_read_53)
        · rcases hpost.2 _ rfl with ⟨hex, c25, hI1⟩
          have hI : sI (dC, dI) vcl cI cJ (gsC a he dp co li op wd tl lc sf lf) A s.heap H1 locs1 := ⟨by rw [← ht]; exact hI1, hS⟩
          refine tz_widen (k := 1) (n := 6) (Nat.le_of_ble_eq_true rfl) (Nat.le_of_ble_eq_true rfl) ?_
          subst hZ
          exact tz_leave (tx_noH B (hts _ mw_538) _) (fun t9 ht9 hW9 => ⟨⟨fun v9 hv9 => (by cases hv9), fun x9 hx9 => by cases hx9; exact (Or.inl ⟨ta_exm hex ht ht9 hWt hW9, c25, by rw [ht9]; exact hI.1⟩)⟩, hI.2.F ht9⟩) hI.2.2.2 hlocks
      · rcases hpost.2 _ rfl with ⟨hex, c26, hI1⟩
        have hI : sI (dC, dI) vcl cI cJ (gsC a he dp co li op wd tl lc sf lf) A s.heap H1 locs1 := ⟨by rw [← ht]; exact hI1, hS⟩
        refine tz_widen (k := 1) (n := 6) (Nat.le_of_ble_eq_true rfl) (Nat.le_of_ble_eq_true rfl) ?_
        subst hZ
        exact tz_leave (tx_noH B (hts _ mw_538) _) (fun t9 ht9 hW9 => ⟨⟨fun v9 hv9 => (by cases hv9), fun x9 hx9 => by cases hx9; exact (Or.inl ⟨ta_exm hex ht ht9 hWt hW9, c26, by rw [ht9]; exact hI.1⟩)⟩, hI.2.F ht9⟩) hI.2.2.2 hlocks
    · refine lv_aload_n hx hb d_Va_read_32 rfl (lv_at hl 0 rfl) ?_
      refine sv_getr (C := "StoryMachine$Variables") (T := T_Va) (N := 2) hx hb hts in_Va hown hK hI 16 kC_16 rfl 1 (by decide) (hts _ mw_169) rfl d_Va_read_33 ?_
      refine lv_iload_n hx hb d_Va_read_36 rfl (lv_at hl 1 rfl) ?_
      refine tz_call (A1 := ga (adC a) H.size) (tz_runV (C := "StoryMachine$Routines") (As := [.int x1]) (rest := []) ⟨hx, hb, hml, hown, hts⟩ (c_Ro_localValue l hfl dC dI cI cJ a H.size he dp co li op wd tl lc sf lf x1 hok) (tx_cb (n := 1) hts rfl rfl ⟨Nat.le_of_ble_eq_true rfl, Nat.le_of_ble_eq_true rfl⟩ (tx_code.of (hts _ mw_553)) (hts _ mw_4) (by decide +kernel) (hts _ mw_550)) (hts _ mw_551) (hts _ mw_552) ⟨tz_blind, sv_recv (q0 := 3) hts in_Ro hK hI kC_3 rfl, fun U hU hW => ⟨rfl, by rw [hU], by rw [hU]; exact hI.1, va_K.moved hW.alike hK, hst _ _ hI.2 U hU hW⟩⟩ rfl rfl hl.1 rfl (lv_room (Nat.le_of_ble_eq_true rfl)) d_Va_read_37 ⟨Nat.le_of_ble_eq_true rfl, Nat.le_of_ble_eq_true rfl⟩) hI.2 (fun q _ h => ga_sub hAC hA0 hI.2 q h) (ga_sub hAC hA0 hI.2) (fun v t H1 locs1 ht hWt hpost _ _ hS => ?_) (fun x t H1 locs1 ht hWt hpost _ _ hS => ?_)
      · rcases hpost.1 _ rfl with ⟨z27, hv, c28, c28_0, c28_1, c28_2, c28_3, hI1⟩
        cases hv
        have hI : sI (dC, dI) vcl cI cJ (gsC a he dp co li op wd tl lc sf lf) A s.heap H1 locs1 := ⟨by rw [← ht]; exact hI1, hS⟩
        clear hpost hI1 hS ht hWt
        revert hI; generalize H1 = H; generalize locs1 = locs; intro hI
        subst hZ
        exact tz_ret (W.iret (v := z27) hx hb hr (fun t ht hW => ⟨⟨fun v9 hv9 => by cases hv9; exact (⟨z27, he, rfl, c28, by omega, by omega, by omega, by omega, by rw [ht]; exact hI.1⟩), fun x9 hx9 => (by cases hx9)⟩, hI.2.F ht⟩) hI.2.2.2 d_Va_read_40)
      · rcases hpost.2 _ rfl with ⟨hex, c29, hI1⟩
        have hI : sI (dC, dI) vcl cI cJ (gsC a he dp co li op wd tl lc sf lf) A s.heap H1 locs1 := ⟨by rw [← ht]; exact hI1, hS⟩
        refine tz_widen (k := 1) (n := 6) (Nat.le_of_ble_eq_true rfl) (Nat.le_of_ble_eq_true rfl) ?_
        subst hZ
        exact tz_leave (tx_noH B (hts _ mw_538) _) (fun t9 ht9 hW9 => ⟨⟨fun v9 hv9 => (by cases hv9), fun x9 hx9 => by cases hx9; exact (Or.inl ⟨ta_exm hex ht ht9 hWt hW9, c29, by rw [ht9]; exact hI.1⟩)⟩, hI.2.F ht9⟩) hI.2.2.2 hlocks
  · refine lv_iload_n hx hb d_Va_read_4 rfl (lv_at hl 2 rfl) ?_
    refine sn_if_eq (tgt := 18) hx hb d_Va_read_5 (by decide) (fun b30 => ?_) (fun b30 => ?_)
    · refine lv_aload_n hx hb d_Va_read_18 rfl (lv_at hl 0 rfl) ?_
      refine sv_getr (C := "StoryMachine$Variables") (T := T_Va) (N := 2) hx hb hts in_Va hown hK hI 16 kC_16 rfl 1 (by decide) (hts _ mw_169) rfl d_Va_read_19 ?_
      refine tz_call (A1 := ga (adC a) H.size) (tz_runV (C := "StoryMachine$Routines") (As := []) (rest := []) ⟨hx, hb, hml, hown, hts⟩ (c_Ro_pop l hfl dC dI cI cJ a H.size he dp co li op wd tl lc sf lf  hok) (tx_cb (n := 0) hts rfl rfl ⟨Nat.le_of_ble_eq_true rfl, Nat.le_of_ble_eq_true rfl⟩ (tx_code.of (hts _ mw_548)) (hts _ mw_4) (by decide +kernel) (hts _ mw_545)) (hts _ mw_546) (hts _ mw_547) ⟨tz_blind, sv_recv (q0 := 3) hts in_Ro hK hI kC_3 rfl, fun U hU hW => ⟨rfl, by rw [hU], by rw [hU]; exact hI.1, va_K.moved hW.alike hK, hst _ _ hI.2 U hU hW⟩⟩ rfl rfl hl.1 rfl (lv_room (Nat.le_of_ble_eq_true rfl)) d_Va_read_22 ⟨Nat.le_of_ble_eq_true rfl, Nat.le_of_ble_eq_true rfl⟩) hI.2 (fun q _ h => ga_sub hAC hA0 hI.2 q h) (ga_sub hAC hA0 hI.2) (fun v t H1 locs1 ht hWt hpost _ _ hS => ?_) (fun x t H1 locs1 ht hWt hpost _ _ hS => ?_)
      · rcases hpost.1 _ rfl with ⟨z31, t_he32, hv, c33, c33_0, c33_1, c33_2, c33_3, hI1⟩
        cases hv
        have hI : sI (dC, dI) vcl cI cJ (gsC a t_he32 dp co li op wd tl lc sf lf) A s.heap H1 locs1 := ⟨by rw [← ht]; exact hI1, hS⟩
        obtain ⟨⟨o34, o35⟩, -, -, -, -, -, -, -, -, -⟩ := id c33
        clear hpost hI1 hS ht hWt
        revert hI; generalize H1 = H; generalize locs1 = locs; intro hI
        subst hZ
        exact tz_ret (W.iret (v := z31) hx hb hr (fun t ht hW => ⟨⟨fun v9 hv9 => by cases hv9; exact (⟨z31, t_he32, rfl, c33, by omega, by omega, by omega, by omega, by rw [ht]; exact hI.1⟩), fun x9 hx9 => (by cases hx9)⟩, hI.2.F ht⟩) hI.2.2.2 d_Va_read_25)
      · rcases hpost.2 _ rfl with ⟨hex, c36, hI1⟩
        have hI : sI (dC, dI) vcl cI cJ (gsC a he dp co li op wd tl lc sf lf) A s.heap H1 locs1 := ⟨by rw [← ht]; exact hI1, hS⟩
        refine tz_widen (k := 1) (n := 6) (Nat.le_of_ble_eq_true rfl) (Nat.le_of_ble_eq_true rfl) ?_
        subst hZ
        exact tz_leave (tx_noH B (hts _ mw_538) _) (fun t9 ht9 hW9 => ⟨⟨fun v9 hv9 => (by cases hv9), fun x9 hx9 => by cases hx9; exact (Or.inr (⟨ta_exm hex ht ht9 hWt hW9, c36, by omega, by omega, by rw [ht9]; exact hI.1⟩))⟩, hI.2.F ht9⟩) hI.2.2.2 hlocks
    · refine lv_aload_n hx hb d_Va_read_8 rfl (lv_at hl 0 rfl) ?_
      refine sv_getr (C := "StoryMachine$Variables") (T := T_Va) (N := 2) hx hb hts in_Va hown hK hI 16 kC_16 rfl 1 (by decide) (hts _ mw_169) rfl d_Va_read_9 ?_
      refine tz_call (A1 := ga (adC a) H.size) (tz_runV (C := "StoryMachine$Routines") (As := []) (rest := []) ⟨hx, hb, hml, hown, hts⟩ (c_Ro_top l hfl dC dI cI cJ a H.size he dp co li op wd tl lc sf lf  hok) (tx_cb (n := 0) hts rfl rfl ⟨Nat.le_of_ble_eq_true rfl, Nat.le_of_ble_eq_true rfl⟩ (tx_code.of (hts _ mw_542)) (hts _ mw_4) (by decide +kernel) (hts _ mw_539)) (hts _ mw_540) (hts _ mw_541) ⟨tz_blind, sv_recv (q0 := 3) hts in_Ro hK hI kC_3 rfl, fun U hU hW => ⟨rfl, by rw [hU], by rw [hU]; exact hI.1, va_K.moved hW.alike hK, hst _ _ hI.2 U hU hW⟩⟩ rfl rfl hl.1 rfl (lv_room (Nat.le_of_ble_eq_true rfl)) d_Va_read_12 ⟨Nat.le_of_ble_eq_true rfl, Nat.le_of_ble_eq_true rfl⟩) hI.2 (fun q _ h => ga_sub hAC hA0 hI.2 q h) (ga_sub hAC hA0 hI.2) (fun v t H1 locs1 ht hWt hpost _ _ hS => ?_) (fun x t H1 locs1 ht hWt hpost _ _ hS => ?_)
      · rcases hpost.1 _ rfl with ⟨z37, hv, c38, c38_0, c38_1, c38_2, hI1⟩
        cases hv
        have hI : sI (dC, dI) vcl cI cJ (gsC a he dp co li op wd tl lc sf lf) A s.heap H1 locs1 := ⟨by rw [← ht]; exact hI1, hS⟩
        clear hpost hI1 hS ht hWt
        revert hI; generalize H1 = H; generalize locs1 = locs; intro hI
        refine lv_goto (tgt := 25) hx hb d_Va_read_15 (by decide) ?_
        subst hZ
        exact tz_ret (W.iret (v := z37) hx hb hr (fun t ht hW => ⟨⟨fun v9 hv9 => by cases hv9; exact (⟨z37, he, rfl, c38, by omega, by omega, by omega, by omega, by rw [ht]; exact hI.1⟩), fun x9 hx9 => (by cases hx9)⟩, hI.2.F ht⟩) hI.2.2.2 d_Va_read_25)
      · rcases hpost.2 _ rfl with ⟨hex, c39, hI1⟩
        have hI : sI (dC, dI) vcl cI cJ (gsC a he dp co li op wd tl lc sf lf) A s.heap H1 locs1 := ⟨by rw [← ht]; exact hI1, hS⟩
        refine tz_widen (k := 1) (n := 6) (Nat.le_of_ble_eq_true rfl) (Nat.le_of_ble_eq_true rfl) ?_
        subst hZ
        exact tz_leave (tx_noH B (hts _ mw_538) _) (fun t9 ht9 hW9 => ⟨⟨fun v9 hv9 => (by cases hv9), fun x9 hx9 => by cases hx9; exact (Or.inr (⟨ta_exm hex ht ht9 hWt hW9, c39, by omega, by omega, by rw [ht9]; exact hI.1⟩))⟩, hI.2.F ht9⟩) hI.2.2.2 hlocks
