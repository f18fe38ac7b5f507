abbrev q_Ro_setLocal (dC : Nat → ClassId) (dI : Nat → Nat → Nat) (cI cJ : ClassId) (a : Nat → Nat) (he dp co li op wd tl lc fo : Int) (sf lf nf : Nat → Int32) (x1 : Int32) (x2 : Int32) : Outcome → State → Prop := fun o t => (∀ v, o = .returned v → ((v = none ∧ okC he dp co li op wd tl lc fo sf lf nf ∧ (1 ≤ x1.toInt) ∧ (x1.toInt ≤ 15) ∧ sh_I (dC, dI) vcl cI cJ (gsC a he dp co li op wd tl lc fo sf lf nf) t.heap))) ∧ (∀ x, o = .threw x → ((ta_Ex "java/lang/IllegalArgumentException" x t ∧ okC he dp co li op wd tl lc fo sf lf nf ∧ sh_I (dC, dI) vcl cI cJ (gsC a he dp co li op wd tl lc fo sf lf nf) t.heap)))
def rm_Ro_setLocal : Room := { frames := 7, cells := 1, slots := 6, locals := 130 }
set_option maxHeartbeats 4000000 in
set_option maxRecDepth 100000 in
theorem c_Ro_setLocal (l : Launch) (hfl : l.flags = pinnedFlags ++ [noTraceFlag]) (dC : Nat → ClassId) (dI : Nat → Nat → Nat) (cI cJ : ClassId) (a : Nat → Nat) (sz : Nat) (he dp co li op wd tl lc fo : Int) (sf lf nf : Nat → Int32) (x1 : Int32) (x2 : Int32) (hok : okC he dp co li op wd tl lc fo sf lf nf) : tz_Met l ⟨"StoryMachine$Routines", "setLocal", "(II)V"⟩ tw_tbl rm_Ro_setLocal (tzP (dC, dI) vcl cI cJ (gsC a he dp co li op wd tl lc fo sf lf nf) a (adC a) [.ref (a 3), .int x1, .int x2] sz) (tq_Q (q_Ro_setLocal dC dI cI cJ a he dp co li op wd tl lc fo sf lf nf x1 x2) (ga (adC a) sz)) 0 0 1 6 (ga (adC a) sz) := by
  refine tz_ofW (cc := prog_9_method_9_code) (maxL := 3) (ret := none) (by decide) (tx_isM mw_632) ?_
  intro p e s m args below meth c s₁ B hml hv
  obtain ⟨rfl, hsz, hI0, hK, hst0⟩ := hv
  have hx := B.exec
  have hb := B.bytes
  have hr := B.returns
  have hts := atoms_spec (ws := tw_tbl) B.pre
  have hown : s.vm.findClass "StoryMachine$Routines" = some m.cls := findClass_of_methodNamed B.named
  have hlocks := B.notSynchronized
  subst hsz
  have hst := fun (H : Heap) (locs : List Loc) (hS : va_S (ga (adC a) s.heap.size) s.heap H locs) (U : State) (hU : U.heap = H) (hW : s.WarmedH U.vm) => zS_all adC_map hI0 hst0 hS hU hW
  have hAC : ∀ q ∈ adC a, ga (adC a) s.heap.size q := fun q h => Or.inl h
  have hA0 : ∀ q, s.heap.size ≤ q → ga (adC a) s.heap.size q := fun q h => Or.inr h
  have hI : sI (dC, dI) vcl cI cJ (gsC a he dp co li op wd tl lc fo sf lf nf) (ga (adC a) s.heap.size) s.heap s.heap [] := ⟨hI0, va_S.rf⟩
  clear hI0 hst0
  have hl := lv_entry ([.ref (a 3), .int x1, .int x2]) (n := 3) (Nat.le_of_ble_eq_true rfl)
  rw [lg_entry_eq]
  generalize (lg_sl ([.ref (a 3), .int x1, .int x2]) ++ List.replicate (3 - (lg_sl ([.ref (a 3), .int x1, .int x2])).length) Slot.unset).toArray = ls at hl ⊢
  have hl : lv_has ls 3 [(0, .ref (a 3)), (1, .int x1), (2, .int x2)] := hl
  generalize hZ : tz_MQ below (tq_Q (q_Ro_setLocal dC dI cI cJ a he dp co li op wd tl lc fo sf lf nf x1 x2) (ga (adC a) s.heap.size)) ([.ref (a 3), .int x1, .int x2] : List Value).toArray s 0 0 1 6 (ga (adC a) s.heap.size) = Z
  obtain ⟨A, hAe⟩ : ∃ A, A = ga (adC a) s.heap.size := ⟨_, rfl⟩
  rw [← hAe] at hst hAC hA0 hI hZ
  refine sv_start hI (fun H locs hI => ?_)
  obtain ⟨⟨o1, o2⟩, ⟨o3, o4⟩, ⟨o5, o6⟩, ⟨o7, o8⟩, ⟨o9, o10⟩, ⟨o11, o12⟩, ⟨o13, o14⟩, ⟨o15, o16⟩, ⟨o17, o18⟩, o19, -, -⟩ := id hok
  have gx1 := sn_rng x1
  have gx2 := sn_rng x2
  have j18 : ∀ (H : Heap) (locs : List Loc) (ls : Array Slot), sI (dC, dI) vcl cI cJ (gsC a he dp co li op wd tl lc fo sf lf nf) A s.heap H locs → okC he dp co li op wd tl lc fo sf lf nf → lv_has ls 3 [(0, .ref (a 3)), (1, .int x1), (2, .int x2)] → W p l e (headSpec tw_tbl rm_Ro_setLocal).room s m ([.ref (a 3), .int x1, .int x2] : List Value).toArray below meth c H locs 0 0 Z (F0 m 18 ls []) := by
    intro H locs ls hI hok hl
    obtain ⟨⟨o20, o21⟩, ⟨o22, o23⟩, ⟨o24, o25⟩, ⟨o26, o27⟩, ⟨o28, o29⟩, ⟨o30, o31⟩, ⟨o32, o33⟩, ⟨o34, o35⟩, ⟨o36, o37⟩, o38, -, -⟩ := id hok
    refine W.widen (k := 0) (n := 0) (Nat.le_of_ble_eq_true rfl) (Nat.le_of_ble_eq_true rfl) ?_
    subst hZ
    exact tz_thrown (tth_Ro_IllegalArgumentException hx hb hfl hown hts (fun U hU hW => (hst _ _ hI.2 U hU hW).1) (by rw [hml]; exact hl.1) d_Ro_setLocal_18 d_Ro_setLocal_21 d_Ro_setLocal_22 d_Ro_setLocal_25 (tx_noH B (hts _ mw_632) _) (Nat.le_of_ble_eq_true rfl) (Nat.le_of_ble_eq_true rfl) (Nat.le_of_ble_eq_true rfl) (Nat.le_of_ble_eq_true rfl) (fun t ce hW hz hk hce hcl hvm => ⟨⟨⟨fun v9 hv9 => (by cases hv9), fun x9 hx9 => by cases hx9; exact (⟨⟨ce, hce, hcl, hvm⟩, hok, sh_kept hI.1 hk⟩)⟩, ta_thrown hI.2 hz hk⟩, _, rfl⟩) hI.2.2.2 hlocks)
  refine lv_iload_n hx hb d_Ro_setLocal_0 rfl (lv_at hl 1 rfl) ?_
  refine sn_iconst hx hb d_Ro_setLocal_1 (by decide) (fun z39 hz39 => ?_)
  refine sn_icmp_lt (tgt := 18) hx hb d_Ro_setLocal_2 (by decide) (fun b40 => ?_) (fun b40 => ?_)
  · exact j18 _ _ _  hI hok (lv_sub hl [0, 1, 2] rfl)
  · refine lv_iload_n hx hb d_Ro_setLocal_5 rfl (lv_at hl 1 rfl) ?_
    refine lv_aload_n hx hb d_Ro_setLocal_6 rfl (lv_at hl 0 rfl) ?_
    refine sv_getr (C := "StoryMachine$Routines") (T := T_Ro) (N := 8) hx hb hts in_Ro hown hK hI 3 kC_3 rfl 6 (by decide) (hts _ mw_89) rfl d_Ro_setLocal_7 ?_
    refine lv_aload_n hx hb d_Ro_setLocal_10 rfl (lv_at hl 0 rfl) ?_
    refine sv_gete (C := "StoryMachine$Routines") (T := T_Ro) (N := 8) hx hb hts in_Ro hown hK hI 3 kC_3 rfl 2 (by decide) (hts _ mw_84) rfl d_Ro_setLocal_11 (fun z41 hz41 => ?_)
    refine sv_ialde hx hb hK hI 13 kC_13 (by omega) (by omega) d_Ro_setLocal_14 (fun z42 hz42 => ?_)
    have hz42r := hok.2.2.2.2.2.2.2.2.2.2.2 (z41.toNatClampNeg)
    rw [← hz42] at hz42r
    have hz42x : z42.toInt = (nf z41.toInt.toNat).toInt := by rw [hz42]; rfl
    rw [hz41] at hz42x
    refine sn_icmp_le (tgt := 26) hx hb d_Ro_setLocal_15 (by decide) (fun b43 => ?_) (fun b43 => ?_)
    · refine lv_aload_n hx hb d_Ro_setLocal_26 rfl (lv_at hl 0 rfl) ?_
      refine sv_getr (C := "StoryMachine$Routines") (T := T_Ro) (N := 8) hx hb hts in_Ro hown hK hI 3 kC_3 rfl 7 (by decide) (hts _ mw_90) rfl d_Ro_setLocal_27 ?_
      refine lv_aload_n hx hb d_Ro_setLocal_30 rfl (lv_at hl 0 rfl) ?_
      refine sv_gete (C := "StoryMachine$Routines") (T := T_Ro) (N := 8) hx hb hts in_Ro hown hK hI 3 kC_3 rfl 2 (by decide) (hts _ mw_84) rfl d_Ro_setLocal_31 (fun z44 hz44 => ?_)
      refine sn_bipush hx hb d_Ro_setLocal_34 (by decide) (fun z45 hz45 => ?_)
      refine sn_imulR (k := 15) hx hb d_Ro_setLocal_36 (by omega) (by omega) (by omega) (fun z46 hz46 => ?_)
      refine lv_iload_n hx hb d_Ro_setLocal_37 rfl (lv_at hl 1 rfl) ?_
      refine sn_iadd hx hb d_Ro_setLocal_38 (by omega) (by omega) (fun z47 hz47 => ?_)
      refine sn_iconst hx hb d_Ro_setLocal_39 (by decide) (fun z48 hz48 => ?_)
      refine sn_isub hx hb d_Ro_setLocal_40 (by omega) (by omega) (fun z49 hz49 => ?_)
      refine lv_iload_n hx hb d_Ro_setLocal_41 rfl (lv_at hl 2 rfl) ?_
      refine sn_ldc (n := 65535) hx hb hown (hts _ mw_624) d_Ro_setLocal_42 (by decide) (fun z50 hz50 => ?_)
      refine sn_iand (k := 16) (M := 65535) hx hb d_Ro_setLocal_44 (by decide) (by decide) (by omega) (fun z51 hz51a hz51b hz51c => ?_)
      clear hz51c
      refine sv_iastr hx hb hK (sh_in adC_map hAC) hI 14 kC_14 (by omega) (by omega) (by omega) (by omega) pC_14 d_Ro_setLocal_45 (fun H locs hI => ?_)
      subst hZ
      exact tz_ret (W.vret hx hb hr (fun t ht hW => ⟨⟨fun v9 hv9 => by cases hv9; exact (⟨rfl, hok, by omega, by omega, by rw [ht]; exact hI.1⟩), fun x9 hx9 => (by cases hx9)⟩, hI.2.F ht⟩) hI.2.2.2 d_Ro_setLocal_46)
    · exact j18 _ _ _  hI hok (lv_sub hl [0, 1, 2] rfl)
abbrev q_Ro_demandRoom (dC : Nat → ClassId) (dI : Nat → Nat → Nat) (cI cJ : ClassId) (a : Nat → Nat) (he dp co li op wd tl lc fo : Int) (sf lf nf : Nat → Int32) : Outcome → State → Prop := fun o t => (∀ v, o = .returned v → ((v = none ∧ okC he dp co li op wd tl lc fo sf lf nf ∧ (dp ≤ 9) ∧ sh_I (dC, dI) vcl cI cJ (gsC a he dp co li op wd tl lc fo sf lf nf) t.heap))) ∧ (∀ x, o = .threw x → ((ta_Ex "java/lang/IllegalStateException" x t ∧ okC he dp co li op wd tl lc fo sf lf nf ∧ (10 ≤ dp) ∧ sh_I (dC, dI) vcl cI cJ (gsC a he dp co li op wd tl lc fo sf lf nf) t.heap)))
def rm_Ro_demandRoom : Room := { frames := 7, cells := 1, slots := 6, locals := 130 }
set_option maxHeartbeats 4000000 in
set_option maxRecDepth 100000 in
theorem c_Ro_demandRoom (l : Launch) (hfl : l.flags = pinnedFlags ++ [noTraceFlag]) (dC : Nat → ClassId) (dI : Nat → Nat → Nat) (cI cJ : ClassId) (a : Nat → Nat) (sz : Nat) (he dp co li op wd tl lc fo : Int) (sf lf nf : Nat → Int32) (hok : okC he dp co li op wd tl lc fo sf lf nf) : tz_Met l ⟨"StoryMachine$Routines", "demandRoom", "()V"⟩ tw_tbl rm_Ro_demandRoom (tzP (dC, dI) vcl cI cJ (gsC a he dp co li op wd tl lc fo sf lf nf) a (adC a) [.ref (a 3)] sz) (tq_Q (q_Ro_demandRoom dC dI cI cJ a he dp co li op wd tl lc fo sf lf nf) (ga (adC a) sz)) 0 0 1 6 (ga (adC a) sz) := by
  refine tz_ofW (cc := prog_9_method_10_code) (maxL := 1) (ret := none) (by decide) (tx_isM mw_876) ?_
  intro p e s m args below meth c s₁ B hml hv
  obtain ⟨rfl, hsz, hI0, hK, hst0⟩ := hv
  have hx := B.exec
  have hb := B.bytes
  have hr := B.returns
  have hts := atoms_spec (ws := tw_tbl) B.pre
  have hown : s.vm.findClass "StoryMachine$Routines" = some m.cls := findClass_of_methodNamed B.named
  have hlocks := B.notSynchronized
  subst hsz
  have hst := fun (H : Heap) (locs : List Loc) (hS : va_S (ga (adC a) s.heap.size) s.heap H locs) (U : State) (hU : U.heap = H) (hW : s.WarmedH U.vm) => zS_all adC_map hI0 hst0 hS hU hW
  have hAC : ∀ q ∈ adC a, ga (adC a) s.heap.size q := fun q h => Or.inl h
  have hA0 : ∀ q, s.heap.size ≤ q → ga (adC a) s.heap.size q := fun q h => Or.inr h
  have hI : sI (dC, dI) vcl cI cJ (gsC a he dp co li op wd tl lc fo sf lf nf) (ga (adC a) s.heap.size) s.heap s.heap [] := ⟨hI0, va_S.rf⟩
  clear hI0 hst0
  have hl := lv_entry ([.ref (a 3)]) (n := 1) (Nat.le_of_ble_eq_true rfl)
  rw [lg_entry_eq]
  generalize (lg_sl ([.ref (a 3)]) ++ List.replicate (1 - (lg_sl ([.ref (a 3)])).length) Slot.unset).toArray = ls at hl ⊢
  have hl : lv_has ls 1 [(0, .ref (a 3))] := hl
  generalize hZ : tz_MQ below (tq_Q (q_Ro_demandRoom dC dI cI cJ a he dp co li op wd tl lc fo sf lf nf) (ga (adC a) s.heap.size)) ([.ref (a 3)] : List Value).toArray s 0 0 1 6 (ga (adC a) s.heap.size) = Z
  obtain ⟨A, hAe⟩ : ∃ A, A = ga (adC a) s.heap.size := ⟨_, rfl⟩
  rw [← hAe] at hst hAC hA0 hI hZ
  refine sv_start hI (fun H locs hI => ?_)
  obtain ⟨⟨o1, o2⟩, ⟨o3, o4⟩, ⟨o5, o6⟩, ⟨o7, o8⟩, ⟨o9, o10⟩, ⟨o11, o12⟩, ⟨o13, o14⟩, ⟨o15, o16⟩, ⟨o17, o18⟩, o19, -, -⟩ := id hok
  refine lv_aload_n hx hb d_Ro_demandRoom_0 rfl (lv_at hl 0 rfl) ?_
  refine sv_gete (C := "StoryMachine$Routines") (T := T_Ro) (N := 8) hx hb hts in_Ro hown hK hI 3 kC_3 rfl 2 (by decide) (hts _ mw_84) rfl d_Ro_demandRoom_1 (fun z20 hz20 => ?_)
  refine sn_bipush hx hb d_Ro_demandRoom_4 (by decide) (fun z21 hz21 => ?_)
  refine sn_icmp_lt (tgt := 17) hx hb d_Ro_demandRoom_6 (by decide) (fun b22 => ?_) (fun b22 => ?_)
  · subst hZ
    exact tz_ret (W.vret hx hb hr (fun t ht hW => ⟨⟨fun v9 hv9 => by cases hv9; exact (⟨rfl, hok, by omega, by rw [ht]; exact hI.1⟩), fun x9 hx9 => (by cases hx9)⟩, hI.2.F ht⟩) hI.2.2.2 d_Ro_demandRoom_17)
  · refine W.widen (k := 0) (n := 0) (Nat.le_of_ble_eq_true rfl) (Nat.le_of_ble_eq_true rfl) ?_
    subst hZ
    exact tz_thrown (tth_Ro_IllegalStateException hx hb hfl hown hts (fun U hU hW => (hst _ _ hI.2 U hU hW).1) (by rw [hml]; exact hl.1) d_Ro_demandRoom_9 d_Ro_demandRoom_12 d_Ro_demandRoom_13 d_Ro_demandRoom_16 (tx_noH B (hts _ mw_876) _) (Nat.le_of_ble_eq_true rfl) (Nat.le_of_ble_eq_true rfl) (Nat.le_of_ble_eq_true rfl) (Nat.le_of_ble_eq_true rfl) (fun t ce hW hz hk hce hcl hvm => ⟨⟨⟨fun v9 hv9 => (by cases hv9), fun x9 hx9 => by cases hx9; exact (⟨⟨ce, hce, hcl, hvm⟩, hok, by omega, sh_kept hI.1 hk⟩)⟩, ta_thrown hI.2 hz hk⟩, _, rfl⟩) hI.2.2.2 hlocks)
abbrev q_Ro_openn (dC : Nat → ClassId) (dI : Nat → Nat → Nat) (cI cJ : ClassId) (a : Nat → Nat) (he dp co li op wd tl lc fo : Int) (sf lf nf : Nat → Int32) (x2 : Int32) (x3 : Int32) (x4 : Int32) : Outcome → State → Prop := fun o t => (∀ v, o = .returned v → ((∃ (dp_ : Int) (nf_ : Nat → Int32), v = none ∧ okC he dp_ co li op wd tl lc fo sf lf nf_ ∧ (dp ≤ 9) ∧ (1 ≤ dp_) ∧ sh_I (dC, dI) vcl cI cJ (gsC a he dp_ co li op wd tl lc fo sf lf nf_) t.heap))) ∧ (∀ x, o = .threw x → ((ta_Ex "java/lang/IllegalStateException" x t ∧ okC he dp co li op wd tl lc fo sf lf nf ∧ (10 ≤ dp) ∧ sh_I (dC, dI) vcl cI cJ (gsC a he dp co li op wd tl lc fo sf lf nf) t.heap)))
def rm_Ro_openn : Room := { frames := 8, cells := 1, slots := 6, locals := 150 }
set_option maxHeartbeats 4000000 in
set_option maxRecDepth 100000 in
theorem c_Ro_openn (l : Launch) (hfl : l.flags = pinnedFlags ++ [noTraceFlag]) (dC : Nat → ClassId) (dI : Nat → Nat → Nat) (cI cJ : ClassId) (a : Nat → Nat) (sz : Nat) (he dp co li op wd tl lc fo : Int) (sf lf nf : Nat → Int32) (x2 : Int32) (x3 : Int32) (x4 : Int32) (hok : okC he dp co li op wd tl lc fo sf lf nf) (hp0 : 0 ≤ x2.toInt) (hp1 : x2.toInt ≤ 15) : tz_Met l ⟨"StoryMachine$Routines", "open", "([IIII)V"⟩ tw_tbl rm_Ro_openn (tzP (dC, dI) vcl cI cJ (gsC a he dp co li op wd tl lc fo sf lf nf) a (adC a) [.ref (a 3), .ref (a 21), .int x2, .int x3, .int x4] sz) (tq_Q (q_Ro_openn dC dI cI cJ a he dp co li op wd tl lc fo sf lf nf x2 x3 x4) (ga (adC a) sz)) 0 0 1 6 (ga (adC a) sz) := by
  refine tz_ofW (cc := prog_9_method_11_code) (maxL := 5) (ret := none) (by decide) (tx_isM mw_881) ?_
  intro p e s m args below meth c s₁ B hml hv
  obtain ⟨rfl, hsz, hI0, hK, hst0⟩ := hv
  have hx := B.exec
  have hb := B.bytes
  have hr := B.returns
  have hts := atoms_spec (ws := tw_tbl) B.pre
  have hown : s.vm.findClass "StoryMachine$Routines" = some m.cls := findClass_of_methodNamed B.named
  have hlocks := B.notSynchronized
  subst hsz
  have hst := fun (H : Heap) (locs : List Loc) (hS : va_S (ga (adC a) s.heap.size) s.heap H locs) (U : State) (hU : U.heap = H) (hW : s.WarmedH U.vm) => zS_all adC_map hI0 hst0 hS hU hW
  have hAC : ∀ q ∈ adC a, ga (adC a) s.heap.size q := fun q h => Or.inl h
  have hA0 : ∀ q, s.heap.size ≤ q → ga (adC a) s.heap.size q := fun q h => Or.inr h
  have hI : sI (dC, dI) vcl cI cJ (gsC a he dp co li op wd tl lc fo sf lf nf) (ga (adC a) s.heap.size) s.heap s.heap [] := ⟨hI0, va_S.rf⟩
  clear hI0 hst0
  have hl := lv_entry ([.ref (a 3), .ref (a 21), .int x2, .int x3, .int x4]) (n := 5) (Nat.le_of_ble_eq_true rfl)
  rw [lg_entry_eq]
  generalize (lg_sl ([.ref (a 3), .ref (a 21), .int x2, .int x3, .int x4]) ++ List.replicate (5 - (lg_sl ([.ref (a 3), .ref (a 21), .int x2, .int x3, .int x4])).length) Slot.unset).toArray = ls at hl ⊢
  have hl : lv_has ls 5 [(0, .ref (a 3)), (1, .ref (a 21)), (2, .int x2), (3, .int x3), (4, .int x4)] := hl
  generalize hZ : tz_MQ below (tq_Q (q_Ro_openn dC dI cI cJ a he dp co li op wd tl lc fo sf lf nf x2 x3 x4) (ga (adC a) s.heap.size)) ([.ref (a 3), .ref (a 21), .int x2, .int x3, .int x4] : List Value).toArray s 0 0 1 6 (ga (adC a) s.heap.size) = Z
  obtain ⟨A, hAe⟩ : ∃ A, A = ga (adC a) s.heap.size := ⟨_, rfl⟩
  rw [← hAe] at hst hAC hA0 hI hZ
  refine sv_start hI (fun H locs hI => ?_)
  obtain ⟨⟨o1, o2⟩, ⟨o3, o4⟩, ⟨o5, o6⟩, ⟨o7, o8⟩, ⟨o9, o10⟩, ⟨o11, o12⟩, ⟨o13, o14⟩, ⟨o15, o16⟩, ⟨o17, o18⟩, o19, -, -⟩ := id hok
  have gx2 := sn_rng x2
  have gx3 := sn_rng x3
  have gx4 := sn_rng x4
  refine lv_aload_n hx hb d_Ro_open_0 rfl (lv_at hl 0 rfl) ?_
  refine tz_call (A1 := ga (adC a) H.size) (tz_runV (C := "StoryMachine$Routines") (As := []) (rest := []) ⟨hx, hb, hml, hown, hts⟩ (c_Ro_demandRoom l hfl dC dI cI cJ a H.size he dp co li op wd tl lc fo sf lf nf  hok) (tx_cb (n := 0) hts rfl rfl ⟨Nat.le_of_ble_eq_true rfl, Nat.le_of_ble_eq_true rfl⟩ (tx_code.of (hts _ mw_876)) (hts _ mw_4) (by decide +kernel) (hts _ mw_882)) (hts _ mw_874) (hts _ mw_875) ⟨tz_blind, sv_recv (q0 := 3) hts in_Ro hK hI kC_3 rfl, fun U hU hW => ⟨rfl, by rw [hU], by rw [hU]; exact hI.1, va_K.moved hW.alike hK, hst _ _ hI.2 U hU hW⟩⟩ rfl rfl hl.1 rfl (lv_room (Nat.le_of_ble_eq_true rfl)) d_Ro_open_1 ⟨Nat.le_of_ble_eq_true rfl, Nat.le_of_ble_eq_true rfl⟩) hI.2 (fun q _ h => ga_sub hAC hA0 hI.2 q h) (ga_sub hAC hA0 hI.2) (fun v t H1 locs1 ht hWt hpost _ _ hS => ?_) (fun x t H1 locs1 ht hWt hpost _ _ hS => ?_)
  · rcases hpost.1 _ rfl with ⟨hv, c20, c20_0, hI1⟩
    cases hv
    have hI : sI (dC, dI) vcl cI cJ (gsC a he dp co li op wd tl lc fo sf lf nf) A s.heap H1 locs1 := ⟨by rw [← ht]; exact hI1, hS⟩
    clear hpost hI1 hS ht hWt
    revert hI; generalize H1 = H; generalize locs1 = locs; intro hI
    refine lv_aload_n hx hb d_Ro_open_4 rfl (lv_at hl 0 rfl) ?_
    refine lv_dup hx hb d_Ro_open_5 rfl ?_
    refine sv_gete (C := "StoryMachine$Routines") (T := T_Ro) (N := 8) hx hb hts in_Ro hown hK hI 3 kC_3 rfl 2 (by decide) (hts _ mw_84) rfl d_Ro_open_6 (fun z21 hz21 => ?_)
    refine sn_iconst hx hb d_Ro_open_9 (by decide) (fun z22 hz22 => ?_)
    refine sn_iadd hx hb d_Ro_open_10 (by omega) (by omega) (fun z23 hz23 => ?_)
    refine sv_put (C := "StoryMachine$Routines") (T := T_Ro) (N := 8) (ty := .int) hx hb hts in_Ro t_Ro tk_Ro nm_Ro hown hK (sh_in adC_map hAC) hI 3 kC_3 rfl 2 (by decide) (hts _ mw_84) rfl (by decide +kernel) rfl rfl (Nat.le_of_ble_eq_true rfl) (Int.le_refl _) (Int.le_refl _) pC_3_2 d_Ro_open_11 (fun H locs hI => ?_)
    refine lv_aload_n hx hb d_Ro_open_14 rfl (lv_at hl 0 rfl) ?_
    refine sv_getr (C := "StoryMachine$Routines") (T := T_Ro) (N := 8) hx hb hts in_Ro hown hK hI 3 kC_3 rfl 3 (by decide) (hts _ mw_86) rfl d_Ro_open_15 ?_
    refine lv_aload_n hx hb d_Ro_open_18 rfl (lv_at hl 0 rfl) ?_
    refine sv_gete (C := "StoryMachine$Routines") (T := T_Ro) (N := 8) hx hb hts in_Ro hown hK hI 3 kC_3 rfl 2 (by decide) (hts _ mw_84) rfl d_Ro_open_19 (fun z24 hz24 => ?_)
    refine lv_aload_n hx hb d_Ro_open_22 rfl (lv_at hl 0 rfl) ?_
    refine sv_gete (C := "StoryMachine$Routines") (T := T_Ro) (N := 8) hx hb hts in_Ro hown hK hI 3 kC_3 rfl 1 (by decide) (hts _ mw_82) rfl d_Ro_open_23 (fun z25 hz25 => ?_)
    refine sv_iastr hx hb hK (sh_in adC_map hAC) hI 10 kC_10 (by omega) (by omega) (by omega) (by omega) pC_10 d_Ro_open_26 (fun H locs hI => ?_)
    refine lv_aload_n hx hb d_Ro_open_27 rfl (lv_at hl 0 rfl) ?_
    refine sv_getr (C := "StoryMachine$Routines") (T := T_Ro) (N := 8) hx hb hts in_Ro hown hK hI 3 kC_3 rfl 4 (by decide) (hts _ mw_87) rfl d_Ro_open_28 ?_
    refine lv_aload_n hx hb d_Ro_open_31 rfl (lv_at hl 0 rfl) ?_
    refine sv_gete (C := "StoryMachine$Routines") (T := T_Ro) (N := 8) hx hb hts in_Ro hown hK hI 3 kC_3 rfl 2 (by decide) (hts _ mw_84) rfl d_Ro_open_32 (fun z26 hz26 => ?_)
    refine lv_iload_n hx hb d_Ro_open_35 rfl (lv_at hl 3 rfl) ?_
    refine sv_iastr hx hb hK (sh_in adC_map hAC) hI 11 kC_11 (by omega) (by omega) (by omega) (by omega) pC_11 d_Ro_open_36 (fun H locs hI => ?_)
    refine lv_aload_n hx hb d_Ro_open_37 rfl (lv_at hl 0 rfl) ?_
    refine sv_getr (C := "StoryMachine$Routines") (T := T_Ro) (N := 8) hx hb hts in_Ro hown hK hI 3 kC_3 rfl 5 (by decide) (hts _ mw_88) rfl d_Ro_open_38 ?_
    refine lv_aload_n hx hb d_Ro_open_41 rfl (lv_at hl 0 rfl) ?_
    refine sv_gete (C := "StoryMachine$Routines") (T := T_Ro) (N := 8) hx hb hts in_Ro hown hK hI 3 kC_3 rfl 2 (by decide) (hts _ mw_84) rfl d_Ro_open_42 (fun z27 hz27 => ?_)
    refine lv_iload hx hb d_Ro_open_45 (lv_at hl 4 rfl) ?_
    refine sv_iastr hx hb hK (sh_in adC_map hAC) hI 12 kC_12 (by omega) (by omega) (by omega) (by omega) pC_12 d_Ro_open_47 (fun H locs hI => ?_)
    refine lv_aload_n hx hb d_Ro_open_48 rfl (lv_at hl 0 rfl) ?_
    refine sv_getr (C := "StoryMachine$Routines") (T := T_Ro) (N := 8) hx hb hts in_Ro hown hK hI 3 kC_3 rfl 6 (by decide) (hts _ mw_89) rfl d_Ro_open_49 ?_
    refine lv_aload_n hx hb d_Ro_open_52 rfl (lv_at hl 0 rfl) ?_
    refine sv_gete (C := "StoryMachine$Routines") (T := T_Ro) (N := 8) hx hb hts in_Ro hown hK hI 3 kC_3 rfl 2 (by decide) (hts _ mw_84) rfl d_Ro_open_53 (fun z28 hz28 => ?_)
    refine lv_iload_n hx hb d_Ro_open_56 rfl (lv_at hl 2 rfl) ?_
    refine sv_iast hx hb hK (sh_in adC_map hAC) hI 13 kC_13 (P' := fun g => g = upd nf (z28.toNatClampNeg) x2) (by omega) (by omega) (fun g hg => by rw [hg]) pC_13 d_Ro_open_57 (fun H locs hI => ?_)
    obtain ⟨f29, hf29⟩ : ∃ z : Nat → Int32, z = upd nf (z28.toNatClampNeg) x2 := ⟨_, rfl⟩
    rw [← hf29] at hI
    have rf29 : rg 0 15 f29 := by rw [hf29]; exact rg_upd c20.2.2.2.2.2.2.2.2.2.2.2 (by omega) (by omega)
    refine lv_aload_n hx hb d_Ro_open_58 rfl (lv_at hl 1 rfl) ?_
    refine sn_iconst hx hb d_Ro_open_59 (by decide) (fun z30 hz30 => ?_)
    refine lv_aload_n hx hb d_Ro_open_60 rfl (lv_at hl 0 rfl) ?_
    refine sv_getr (C := "StoryMachine$Routines") (T := T_Ro) (N := 8) hx hb hts in_Ro hown hK hI 3 kC_3 rfl 7 (by decide) (hts _ mw_90) rfl d_Ro_open_61 ?_
    refine lv_aload_n hx hb d_Ro_open_64 rfl (lv_at hl 0 rfl) ?_
    refine sv_gete (C := "StoryMachine$Routines") (T := T_Ro) (N := 8) hx hb hts in_Ro hown hK hI 3 kC_3 rfl 2 (by decide) (hts _ mw_84) rfl d_Ro_open_65 (fun z31 hz31 => ?_)
    refine sn_bipush hx hb d_Ro_open_68 (by decide) (fun z32 hz32 => ?_)
    refine sn_imulR (k := 15) hx hb d_Ro_open_70 (by omega) (by omega) (by omega) (fun z33 hz33 => ?_)
    refine lv_iload_n hx hb d_Ro_open_71 rfl (lv_at hl 2 rfl) ?_
    refine sj_copy hx hb (by rw [hml]; exact hl.1.symm) hown (hts _ mw_722) (hts _ mw_717) (hts _ mw_716) (hts _ mw_23) hK (sh_in adC_map hAC) hI 21 14 (lo := 0) (hi := 65535) kC_21 kC_14 (fun _ h => h) (fun _ h => h) (by omega) (by omega) (by omega) (by omega) (by omega) (Nat.le_of_ble_eq_true rfl) (Nat.le_of_ble_eq_true rfl) pC_14 d_Ro_open_72 (fun H locs hI => ?_)
    have ho34 : okC he z23.toInt co li op wd tl lc fo sf lf f29 := ⟨c20.1, ⟨by omega, by omega⟩, c20.2.2.1, c20.2.2.2.1, c20.2.2.2.2.1, c20.2.2.2.2.2.1, c20.2.2.2.2.2.2.1, c20.2.2.2.2.2.2.2.1, c20.2.2.2.2.2.2.2.2.1, c20.2.2.2.2.2.2.2.2.2.1, c20.2.2.2.2.2.2.2.2.2.2.1, rf29⟩
    subst hZ
    exact tz_ret (W.vret hx hb hr (fun t ht hW => ⟨⟨fun v9 hv9 => by cases hv9; exact (⟨z23.toInt, f29, rfl, ho34, by omega, by omega, by rw [ht]; exact hI.1⟩), fun x9 hx9 => (by cases hx9)⟩, hI.2.F ht⟩) hI.2.2.2 d_Ro_open_75)
  · rcases hpost.2 _ rfl with ⟨hex, c35, c35_0, hI1⟩
    have hI : sI (dC, dI) vcl cI cJ (gsC a he dp co li op wd tl lc fo sf lf nf) A s.heap H1 locs1 := ⟨by rw [← ht]; exact hI1, hS⟩
    refine tz_widen (k := 1) (n := 6) (Nat.le_of_ble_eq_true rfl) (Nat.le_of_ble_eq_true rfl) ?_
    subst hZ
    exact tz_leave (tx_noH B (hts _ mw_881) _) (fun t9 ht9 hW9 => ⟨⟨fun v9 hv9 => (by cases hv9), fun x9 hx9 => by cases hx9; exact (⟨ta_exm hex ht ht9 hWt hW9, c35, by omega, by rw [ht9]; exact hI.1⟩)⟩, hI.2.F ht9⟩) hI.2.2.2 hlocks
abbrev q_Ro_behind (dC : Nat → ClassId) (dI : Nat → Nat → Nat) (cI cJ : ClassId) (a : Nat → Nat) (he dp co li op wd tl lc fo : Int) (sf lf nf : Nat → Int32) : Outcome → State → Prop := fun o t => (∀ v, o = .returned v → ((∃ (z : Int32), v = some (.int z) ∧ okC he dp co li op wd tl lc fo sf lf nf ∧ ((-2147483648) ≤ z.toInt) ∧ (z.toInt ≤ 2147483647) ∧ sh_I (dC, dI) vcl cI cJ (gsC a he dp co li op wd tl lc fo sf lf nf) t.heap))) ∧ (∀ x, o = .threw x → (False))
def rm_Ro_behind : Room := { frames := 0, cells := 0, slots := 0, locals := 0 }
set_option maxHeartbeats 4000000 in
set_option maxRecDepth 100000 in
theorem c_Ro_behind (l : Launch) (hfl : l.flags = pinnedFlags ++ [noTraceFlag]) (dC : Nat → ClassId) (dI : Nat → Nat → Nat) (cI cJ : ClassId) (a : Nat → Nat) (sz : Nat) (he dp co li op wd tl lc fo : Int) (sf lf nf : Nat → Int32) (hok : okC he dp co li op wd tl lc fo sf lf nf) : tz_Met l ⟨"StoryMachine$Routines", "behind", "()I"⟩ tw_tbl rm_Ro_behind (tzP (dC, dI) vcl cI cJ (gsC a he dp co li op wd tl lc fo sf lf nf) a (adC a) [.ref (a 3)] sz) (tq_Q (q_Ro_behind dC dI cI cJ a he dp co li op wd tl lc fo sf lf nf) (ga (adC a) sz)) 0 0 0 0 (ga (adC a) sz) := by
  refine tz_ofW (cc := prog_9_method_12_code) (maxL := 1) (ret := (some .int)) (by decide) (tx_isM mw_611) ?_
  intro p e s m args below meth c s₁ B hml hv
  obtain ⟨rfl, hsz, hI0, hK, hst0⟩ := hv
  have hx := B.exec
  have hb := B.bytes
  have hr := B.returns
  have hts := atoms_spec (ws := tw_tbl) B.pre
  have hown : s.vm.findClass "StoryMachine$Routines" = some m.cls := findClass_of_methodNamed B.named
  have hlocks := B.notSynchronized
  subst hsz
  have hst := fun (H : Heap) (locs : List Loc) (hS : va_S (ga (adC a) s.heap.size) s.heap H locs) (U : State) (hU : U.heap = H) (hW : s.WarmedH U.vm) => zS_all adC_map hI0 hst0 hS hU hW
  have hAC : ∀ q ∈ adC a, ga (adC a) s.heap.size q := fun q h => Or.inl h
  have hA0 : ∀ q, s.heap.size ≤ q → ga (adC a) s.heap.size q := fun q h => Or.inr h
  have hI : sI (dC, dI) vcl cI cJ (gsC a he dp co li op wd tl lc fo sf lf nf) (ga (adC a) s.heap.size) s.heap s.heap [] := ⟨hI0, va_S.rf⟩
  clear hI0 hst0
  have hl := lv_entry ([.ref (a 3)]) (n := 1) (Nat.le_of_ble_eq_true rfl)
  rw [lg_entry_eq]
  generalize (lg_sl ([.ref (a 3)]) ++ List.replicate (1 - (lg_sl ([.ref (a 3)])).length) Slot.unset).toArray = ls at hl ⊢
  have hl : lv_has ls 1 [(0, .ref (a 3))] := hl
  generalize hZ : tz_MQ below (tq_Q (q_Ro_behind dC dI cI cJ a he dp co li op wd tl lc fo sf lf nf) (ga (adC a) s.heap.size)) ([.ref (a 3)] : List Value).toArray s 0 0 0 0 (ga (adC a) s.heap.size) = Z
  obtain ⟨A, hAe⟩ : ∃ A, A = ga (adC a) s.heap.size := ⟨_, rfl⟩
  rw [← hAe] at hst hAC hA0 hI hZ
  refine sv_start hI (fun H locs hI => ?_)
  obtain ⟨⟨o1, o2⟩, ⟨o3, o4⟩, ⟨o5, o6⟩, ⟨o7, o8⟩, ⟨o9, o10⟩, ⟨o11, o12⟩, ⟨o13, o14⟩, ⟨o15, o16⟩, ⟨o17, o18⟩, o19, -, -⟩ := id hok
  refine lv_aload_n hx hb d_Ro_behind_0 rfl (lv_at hl 0 rfl) ?_
  refine sv_getr (C := "StoryMachine$Routines") (T := T_Ro) (N := 8) hx hb hts in_Ro hown hK hI 3 kC_3 rfl 4 (by decide) (hts _ mw_87) rfl d_Ro_behind_1 ?_
  refine lv_aload_n hx hb d_Ro_behind_4 rfl (lv_at hl 0 rfl) ?_
  refine sv_gete (C := "StoryMachine$Routines") (T := T_Ro) (N := 8) hx hb hts in_Ro hown hK hI 3 kC_3 rfl 2 (by decide) (hts _ mw_84) rfl d_Ro_behind_5 (fun z20 hz20 => ?_)
  refine sv_ialdr hx hb hK hI 11 kC_11 (by omega) (by omega) d_Ro_behind_8 (fun z21 hz21a hz21b => ?_)
  subst hZ
  exact tz_ret (W.iret (v := z21) hx hb hr (fun t ht hW => ⟨⟨fun v9 hv9 => by cases hv9; exact (⟨z21, rfl, hok, by omega, by omega, by rw [ht]; exact hI.1⟩), fun x9 hx9 => (by cases hx9)⟩, hI.2.F ht⟩) hI.2.2.2 d_Ro_behind_9)
abbrev q_Ro_result (dC : Nat → ClassId) (dI : Nat → Nat → Nat) (cI cJ : ClassId) (a : Nat → Nat) (he dp co li op wd tl lc fo : Int) (sf lf nf : Nat → Int32) : Outcome → State → Prop := fun o t => (∀ v, o = .returned v → ((∃ (z : Int32), v = some (.int z) ∧ okC he dp co li op wd tl lc fo sf lf nf ∧ ((-2147483648) ≤ z.toInt) ∧ (z.toInt ≤ 2147483647) ∧ sh_I (dC, dI) vcl cI cJ (gsC a he dp co li op wd tl lc fo sf lf nf) t.heap))) ∧ (∀ x, o = .threw x → (False))
def rm_Ro_result : Room := { frames := 0, cells := 0, slots := 0, locals := 0 }
set_option maxHeartbeats 4000000 in
set_option maxRecDepth 100000 in
theorem c_Ro_result (l : Launch) (hfl : l.flags = pinnedFlags ++ [noTraceFlag]) (dC : Nat → ClassId) (dI : Nat → Nat → Nat) (cI cJ : ClassId) (a : Nat → Nat) (sz : Nat) (he dp co li op wd tl lc fo : Int) (sf lf nf : Nat → Int32) (hok : okC he dp co li op wd tl lc fo sf lf nf) : tz_Met l ⟨"StoryMachine$Routines", "result", "()I"⟩ tw_tbl rm_Ro_result (tzP (dC, dI) vcl cI cJ (gsC a he dp co li op wd tl lc fo sf lf nf) a (adC a) [.ref (a 3)] sz) (tq_Q (q_Ro_result dC dI cI cJ a he dp co li op wd tl lc fo sf lf nf) (ga (adC a) sz)) 0 0 0 0 (ga (adC a) sz) := by
  refine tz_ofW (cc := prog_9_method_13_code) (maxL := 1) (ret := (some .int)) (by decide) (tx_isM mw_607) ?_
  intro p e s m args below meth c s₁ B hml hv
  obtain ⟨rfl, hsz, hI0, hK, hst0⟩ := hv
  have hx := B.exec
  have hb := B.bytes
  have hr := B.returns
  have hts := atoms_spec (ws := tw_tbl) B.pre
  have hown : s.vm.findClass "StoryMachine$Routines" = some m.cls := findClass_of_methodNamed B.named
  have hlocks := B.notSynchronized
  subst hsz
  have hst := fun (H : Heap) (locs : List Loc) (hS : va_S (ga (adC a) s.heap.size) s.heap H locs) (U : State) (hU : U.heap = H) (hW : s.WarmedH U.vm) => zS_all adC_map hI0 hst0 hS hU hW
  have hAC : ∀ q ∈ adC a, ga (adC a) s.heap.size q := fun q h => Or.inl h
  have hA0 : ∀ q, s.heap.size ≤ q → ga (adC a) s.heap.size q := fun q h => Or.inr h
  have hI : sI (dC, dI) vcl cI cJ (gsC a he dp co li op wd tl lc fo sf lf nf) (ga (adC a) s.heap.size) s.heap s.heap [] := ⟨hI0, va_S.rf⟩
  clear hI0 hst0
  have hl := lv_entry ([.ref (a 3)]) (n := 1) (Nat.le_of_ble_eq_true rfl)
  rw [lg_entry_eq]
  generalize (lg_sl ([.ref (a 3)]) ++ List.replicate (1 - (lg_sl ([.ref (a 3)])).length) Slot.unset).toArray = ls at hl ⊢
  have hl : lv_has ls 1 [(0, .ref (a 3))] := hl
  generalize hZ : tz_MQ below (tq_Q (q_Ro_result dC dI cI cJ a he dp co li op wd tl lc fo sf lf nf) (ga (adC a) s.heap.size)) ([.ref (a 3)] : List Value).toArray s 0 0 0 0 (ga (adC a) s.heap.size) = Z
  obtain ⟨A, hAe⟩ : ∃ A, A = ga (adC a) s.heap.size := ⟨_, rfl⟩
  rw [← hAe] at hst hAC hA0 hI hZ
  refine sv_start hI (fun H locs hI => ?_)
  obtain ⟨⟨o1, o2⟩, ⟨o3, o4⟩, ⟨o5, o6⟩, ⟨o7, o8⟩, ⟨o9, o10⟩, ⟨o11, o12⟩, ⟨o13, o14⟩, ⟨o15, o16⟩, ⟨o17, o18⟩, o19, -, -⟩ := id hok
  refine lv_aload_n hx hb d_Ro_result_0 rfl (lv_at hl 0 rfl) ?_
  refine sv_getr (C := "StoryMachine$Routines") (T := T_Ro) (N := 8) hx hb hts in_Ro hown hK hI 3 kC_3 rfl 5 (by decide) (hts _ mw_88) rfl d_Ro_result_1 ?_
  refine lv_aload_n hx hb d_Ro_result_4 rfl (lv_at hl 0 rfl) ?_
  refine sv_gete (C := "StoryMachine$Routines") (T := T_Ro) (N := 8) hx hb hts in_Ro hown hK hI 3 kC_3 rfl 2 (by decide) (hts _ mw_84) rfl d_Ro_result_5 (fun z20 hz20 => ?_)
  refine sv_ialdr hx hb hK hI 12 kC_12 (by omega) (by omega) d_Ro_result_8 (fun z21 hz21a hz21b => ?_)
  subst hZ
  exact tz_ret (W.iret (v := z21) hx hb hr (fun t ht hW => ⟨⟨fun v9 hv9 => by cases hv9; exact (⟨z21, rfl, hok, by omega, by omega, by rw [ht]; exact hI.1⟩), fun x9 hx9 => (by cases hx9)⟩, hI.2.F ht⟩) hI.2.2.2 d_Ro_result_9)
abbrev q_Ro_close (dC : Nat → ClassId) (dI : Nat → Nat → Nat) (cI cJ : ClassId) (a : Nat → Nat) (he dp co li op wd tl lc fo : Int) (sf lf nf : Nat → Int32) : Outcome → State → Prop := fun o t => (∀ v, o = .returned v → ((∃ (he_ dp_ : Int), v = none ∧ okC he_ dp_ co li op wd tl lc fo sf lf nf ∧ (1 ≤ dp) ∧ (dp_ ≤ 9) ∧ sh_I (dC, dI) vcl cI cJ (gsC a he_ dp_ co li op wd tl lc fo sf lf nf) t.heap))) ∧ (∀ x, o = .threw x → ((ta_Ex "java/lang/IllegalArgumentException" x t ∧ okC he dp co li op wd tl lc fo sf lf nf ∧ (dp ≤ 0) ∧ sh_I (dC, dI) vcl cI cJ (gsC a he dp co li op wd tl lc fo sf lf nf) t.heap)))
def rm_Ro_close : Room := { frames := 7, cells := 1, slots := 6, locals := 130 }
set_option maxHeartbeats 4000000 in
set_option maxRecDepth 100000 in
theorem c_Ro_close (l : Launch) (hfl : l.flags = pinnedFlags ++ [noTraceFlag]) (dC : Nat → ClassId) (dI : Nat → Nat → Nat) (cI cJ : ClassId) (a : Nat → Nat) (sz : Nat) (he dp co li op wd tl lc fo : Int) (sf lf nf : Nat → Int32) (hok : okC he dp co li op wd tl lc fo sf lf nf) : tz_Met l ⟨"StoryMachine$Routines", "close", "()V"⟩ tw_tbl rm_Ro_close (tzP (dC, dI) vcl cI cJ (gsC a he dp co li op wd tl lc fo sf lf nf) a (adC a) [.ref (a 3)] sz) (tq_Q (q_Ro_close dC dI cI cJ a he dp co li op wd tl lc fo sf lf nf) (ga (adC a) sz)) 0 0 1 6 (ga (adC a) sz) := by
  refine tz_ofW (cc := prog_9_method_14_code) (maxL := 1) (ret := none) (by decide) (tx_isM mw_615) ?_
  intro p e s m args below meth c s₁ B hml hv
  obtain ⟨rfl, hsz, hI0, hK, hst0⟩ := hv
  have hx := B.exec
  have hb := B.bytes
  have hr := B.returns
  have hts := atoms_spec (ws := tw_tbl) B.pre
  have hown : s.vm.findClass "StoryMachine$Routines" = some m.cls := findClass_of_methodNamed B.named
  have hlocks := B.notSynchronized
  subst hsz
  have hst := fun (H : Heap) (locs : List Loc) (hS : va_S (ga (adC a) s.heap.size) s.heap H locs) (U : State) (hU : U.heap = H) (hW : s.WarmedH U.vm) => zS_all adC_map hI0 hst0 hS hU hW
  have hAC : ∀ q ∈ adC a, ga (adC a) s.heap.size q := fun q h => Or.inl h
  have hA0 : ∀ q, s.heap.size ≤ q → ga (adC a) s.heap.size q := fun q h => Or.inr h
  have hI : sI (dC, dI) vcl cI cJ (gsC a he dp co li op wd tl lc fo sf lf nf) (ga (adC a) s.heap.size) s.heap s.heap [] := ⟨hI0, va_S.rf⟩
  clear hI0 hst0
  have hl := lv_entry ([.ref (a 3)]) (n := 1) (Nat.le_of_ble_eq_true rfl)
  rw [lg_entry_eq]
  generalize (lg_sl ([.ref (a 3)]) ++ List.replicate (1 - (lg_sl ([.ref (a 3)])).length) Slot.unset).toArray = ls at hl ⊢
  have hl : lv_has ls 1 [(0, .ref (a 3))] := hl
  generalize hZ : tz_MQ below (tq_Q (q_Ro_close dC dI cI cJ a he dp co li op wd tl lc fo sf lf nf) (ga (adC a) s.heap.size)) ([.ref (a 3)] : List Value).toArray s 0 0 1 6 (ga (adC a) s.heap.size) = Z
  obtain ⟨A, hAe⟩ : ∃ A, A = ga (adC a) s.heap.size := ⟨_, rfl⟩
  rw [← hAe] at hst hAC hA0 hI hZ
  refine sv_start hI (fun H locs hI => ?_)
  obtain ⟨⟨o1, o2⟩, ⟨o3, o4⟩, ⟨o5, o6⟩, ⟨o7, o8⟩, ⟨o9, o10⟩, ⟨o11, o12⟩, ⟨o13, o14⟩, ⟨o15, o16⟩, ⟨o17, o18⟩, o19, -, -⟩ := id hok
  refine lv_aload_n hx hb d_Ro_close_0 rfl (lv_at hl 0 rfl) ?_
  refine sv_gete (C := "StoryMachine$Routines") (T := T_Ro) (N := 8) hx hb hts in_Ro hown hK hI 3 kC_3 rfl 2 (by decide) (hts _ mw_84) rfl d_Ro_close_1 (fun z20 hz20 => ?_)
  refine sn_if_ne (tgt := 15) hx hb d_Ro_close_4 (by decide) (fun b21 => ?_) (fun b21 => ?_)
  · refine lv_aload_n hx hb d_Ro_close_15 rfl (lv_at hl 0 rfl) ?_
    refine lv_aload_n hx hb d_Ro_close_16 rfl (lv_at hl 0 rfl) ?_
    refine sv_getr (C := "StoryMachine$Routines") (T := T_Ro) (N := 8) hx hb hts in_Ro hown hK hI 3 kC_3 rfl 3 (by decide) (hts _ mw_86) rfl d_Ro_close_17 ?_
    refine lv_aload_n hx hb d_Ro_close_20 rfl (lv_at hl 0 rfl) ?_
    refine sv_gete (C := "StoryMachine$Routines") (T := T_Ro) (N := 8) hx hb hts in_Ro hown hK hI 3 kC_3 rfl 2 (by decide) (hts _ mw_84) rfl d_Ro_close_21 (fun z22 hz22 => ?_)
    refine sv_ialdr hx hb hK hI 10 kC_10 (by omega) (by omega) d_Ro_close_24 (fun z23 hz23a hz23b => ?_)
    refine sv_put (C := "StoryMachine$Routines") (T := T_Ro) (N := 8) (ty := .int) hx hb hts in_Ro t_Ro tk_Ro nm_Ro hown hK (sh_in adC_map hAC) hI 3 kC_3 rfl 1 (by decide) (hts _ mw_82) rfl (by decide +kernel) rfl rfl (Nat.le_of_ble_eq_true rfl) (Int.le_refl _) (Int.le_refl _) pC_3_1 d_Ro_close_25 (fun H locs hI => ?_)
    refine lv_aload_n hx hb d_Ro_close_28 rfl (lv_at hl 0 rfl) ?_
    refine lv_dup hx hb d_Ro_close_29 rfl ?_
    refine sv_gete (C := "StoryMachine$Routines") (T := T_Ro) (N := 8) hx hb hts in_Ro hown hK hI 3 kC_3 rfl 2 (by decide) (hts _ mw_84) rfl d_Ro_close_30 (fun z24 hz24 => ?_)
    refine sn_iconst hx hb d_Ro_close_33 (by decide) (fun z25 hz25 => ?_)
    refine sn_isub hx hb d_Ro_close_34 (by omega) (by omega) (fun z26 hz26 => ?_)
    refine sv_put (C := "StoryMachine$Routines") (T := T_Ro) (N := 8) (ty := .int) hx hb hts in_Ro t_Ro tk_Ro nm_Ro hown hK (sh_in adC_map hAC) hI 3 kC_3 rfl 2 (by decide) (hts _ mw_84) rfl (by decide +kernel) rfl rfl (Nat.le_of_ble_eq_true rfl) (Int.le_refl _) (Int.le_refl _) pC_3_2 d_Ro_close_35 (fun H locs hI => ?_)
    have ho27 : okC z23.toInt z26.toInt co li op wd tl lc fo sf lf nf := ⟨⟨by omega, by omega⟩, ⟨by omega, by omega⟩, hok.2.2.1, hok.2.2.2.1, hok.2.2.2.2.1, hok.2.2.2.2.2.1, hok.2.2.2.2.2.2.1, hok.2.2.2.2.2.2.2.1, hok.2.2.2.2.2.2.2.2.1, hok.2.2.2.2.2.2.2.2.2.1, hok.2.2.2.2.2.2.2.2.2.2.1, hok.2.2.2.2.2.2.2.2.2.2.2⟩
    subst hZ
    exact tz_ret (W.vret hx hb hr (fun t ht hW => ⟨⟨fun v9 hv9 => by cases hv9; exact (⟨z23.toInt, z26.toInt, rfl, ho27, by omega, by omega, by rw [ht]; exact hI.1⟩), fun x9 hx9 => (by cases hx9)⟩, hI.2.F ht⟩) hI.2.2.2 d_Ro_close_38)
  · refine W.widen (k := 0) (n := 0) (Nat.le_of_ble_eq_true rfl) (Nat.le_of_ble_eq_true rfl) ?_
    subst hZ
    exact tz_thrown (tth_Ro_IllegalArgumentException hx hb hfl hown hts (fun U hU hW => (hst _ _ hI.2 U hU hW).1) (by rw [hml]; exact hl.1) d_Ro_close_7 d_Ro_close_10 d_Ro_close_11 d_Ro_close_14 (tx_noH B (hts _ mw_615) _) (Nat.le_of_ble_eq_true rfl) (Nat.le_of_ble_eq_true rfl) (Nat.le_of_ble_eq_true rfl) (Nat.le_of_ble_eq_true rfl) (fun t ce hW hz hk hce hcl hvm => ⟨⟨⟨fun v9 hv9 => (by cases hv9), fun x9 hx9 => by cases hx9; exact (⟨⟨ce, hce, hcl, hvm⟩, hok, by omega, sh_kept hI.1 hk⟩)⟩, ta_thrown hI.2 hz hk⟩, _, rfl⟩) hI.2.2.2 hlocks)
abbrev q_Me_wordAts (dC : Nat → ClassId) (dI : Nat → Nat → Nat) (cI cJ : ClassId) (a : Nat → Nat) (he dp co li op wd tl lc fo : Int) (sf lf nf : Nat → Int32) (x1 : Int32) : Outcome → State → Prop := fun o t => (∀ v, o = .returned v → ((∃ (z : Int32), v = some (.int z) ∧ okC he dp co li op wd tl lc fo sf lf nf ∧ (0 ≤ z.toInt) ∧ (z.toInt ≤ 65535) ∧ sh_I (dC, dI) vcl cI cJ (gsC a he dp co li op wd tl lc fo sf lf nf) t.heap))) ∧ (∀ x, o = .threw x → (False))
def rm_Me_wordAts : Room := { frames := 0, cells := 0, slots := 0, locals := 0 }
set_option maxHeartbeats 4000000 in
set_option maxRecDepth 100000 in
theorem c_Me_wordAts (l : Launch) (hfl : l.flags = pinnedFlags ++ [noTraceFlag]) (dC : Nat → ClassId) (dI : Nat → Nat → Nat) (cI cJ : ClassId) (a : Nat → Nat) (sz : Nat) (he dp co li op wd tl lc fo : Int) (sf lf nf : Nat → Int32) (x1 : Int32) (hok : okC he dp co li op wd tl lc fo sf lf nf) (hp0 : 0 ≤ x1.toInt) (hp1 : x1.toInt ≤ 510) : tz_Met l ⟨"StoryMachine$Memory", "wordAt", "(I)I"⟩ tw_tbl rm_Me_wordAts (tzP (dC, dI) vcl cI cJ (gsC a he dp co li op wd tl lc fo sf lf nf) a (adC a) [.ref (a 1), .int x1] sz) (tq_Q (q_Me_wordAts dC dI cI cJ a he dp co li op wd tl lc fo sf lf nf x1) (ga (adC a) sz)) 0 0 0 0 (ga (adC a) sz) := by
  refine tz_ofW (cc := prog_7_method_3_code) (maxL := 2) (ret := (some .int)) (by decide) (tx_isM mw_440) ?_
  intro p e s m args below meth c s₁ B hml hv
  obtain ⟨rfl, hsz, hI0, hK, hst0⟩ := hv
  have hx := B.exec
  have hb := B.bytes
  have hr := B.returns
  have hts := atoms_spec (ws := tw_tbl) B.pre
  have hown : s.vm.findClass "StoryMachine$Memory" = some m.cls := findClass_of_methodNamed B.named
  have hlocks := B.notSynchronized
  subst hsz
  have hst := fun (H : Heap) (locs : List Loc) (hS : va_S (ga (adC a) s.heap.size) s.heap H locs) (U : State) (hU : U.heap = H) (hW : s.WarmedH U.vm) => zS_all adC_map hI0 hst0 hS hU hW
  have hAC : ∀ q ∈ adC a, ga (adC a) s.heap.size q := fun q h => Or.inl h
  have hA0 : ∀ q, s.heap.size ≤ q → ga (adC a) s.heap.size q := fun q h => Or.inr h
  have hI : sI (dC, dI) vcl cI cJ (gsC a he dp co li op wd tl lc fo sf lf nf) (ga (adC a) s.heap.size) s.heap s.heap [] := ⟨hI0, va_S.rf⟩
  clear hI0 hst0
  have hl := lv_entry ([.ref (a 1), .int x1]) (n := 2) (Nat.le_of_ble_eq_true rfl)
  rw [lg_entry_eq]
  generalize (lg_sl ([.ref (a 1), .int x1]) ++ List.replicate (2 - (lg_sl ([.ref (a 1), .int x1])).length) Slot.unset).toArray = ls at hl ⊢
  have hl : lv_has ls 2 [(0, .ref (a 1)), (1, .int x1)] := hl
  generalize hZ : tz_MQ below (tq_Q (q_Me_wordAts dC dI cI cJ a he dp co li op wd tl lc fo sf lf nf x1) (ga (adC a) s.heap.size)) ([.ref (a 1), .int x1] : List Value).toArray s 0 0 0 0 (ga (adC a) s.heap.size) = Z
  obtain ⟨A, hAe⟩ : ∃ A, A = ga (adC a) s.heap.size := ⟨_, rfl⟩
  rw [← hAe] at hst hAC hA0 hI hZ
  refine sv_start hI (fun H locs hI => ?_)
  obtain ⟨⟨o1, o2⟩, ⟨o3, o4⟩, ⟨o5, o6⟩, ⟨o7, o8⟩, ⟨o9, o10⟩, ⟨o11, o12⟩, ⟨o13, o14⟩, ⟨o15, o16⟩, ⟨o17, o18⟩, o19, -, -⟩ := id hok
  have gx1 := sn_rng x1
  refine lv_iload_n hx hb d_Me_wordAt_0 rfl (lv_at hl 1 rfl) ?_
  refine sn_if_lt (tgt := 11) hx hb d_Me_wordAt_1 (by decide) (fun b20 => ?_) (fun b20 => ?_)
  · omega
  · refine lv_iload_n hx hb d_Me_wordAt_4 rfl (lv_at hl 1 rfl) ?_
    refine sn_sipush hx hb d_Me_wordAt_5 (by decide) (fun z21 hz21 => ?_)
    refine sn_icmp_lt (tgt := 19) hx hb d_Me_wordAt_8 (by decide) (fun b22 => ?_) (fun b22 => ?_)
    · refine sn_sipush hx hb d_Me_wordAt_19 (by decide) (fun z23 hz23 => ?_)
      refine lv_aload_n hx hb d_Me_wordAt_22 rfl (lv_at hl 0 rfl) ?_
      refine sv_getr (C := "StoryMachine$Memory") (T := T_Me) (N := 1) hx hb hts in_Me hown hK hI 1 kC_1 rfl 0 (by decide) (hts _ mw_42) rfl d_Me_wordAt_23 ?_
      refine lv_iload_n hx hb d_Me_wordAt_26 rfl (lv_at hl 1 rfl) ?_
      refine sv_ialdr hx hb hK hI 6 kC_6 (by omega) (by omega) d_Me_wordAt_27 (fun z24 hz24a hz24b => ?_)
      refine sn_imulL (k := 256) hx hb d_Me_wordAt_28 (by omega) (by omega) (by omega) (fun z25 hz25 => ?_)
      refine lv_aload_n hx hb d_Me_wordAt_29 rfl (lv_at hl 0 rfl) ?_
      refine sv_getr (C := "StoryMachine$Memory") (T := T_Me) (N := 1) hx hb hts in_Me hown hK hI 1 kC_1 rfl 0 (by decide) (hts _ mw_42) rfl d_Me_wordAt_30 ?_
      refine lv_iload_n hx hb d_Me_wordAt_33 rfl (lv_at hl 1 rfl) ?_
      refine sn_iconst hx hb d_Me_wordAt_34 (by decide) (fun z26 hz26 => ?_)
      refine sn_iadd hx hb d_Me_wordAt_35 (by omega) (by omega) (fun z27 hz27 => ?_)
      refine sv_ialdr hx hb hK hI 6 kC_6 (by omega) (by omega) d_Me_wordAt_36 (fun z28 hz28a hz28b => ?_)
      refine sn_iadd hx hb d_Me_wordAt_37 (by omega) (by omega) (fun z29 hz29 => ?_)
      subst hZ
      exact tz_ret (W.iret (v := z29) hx hb hr (fun t ht hW => ⟨⟨fun v9 hv9 => by cases hv9; exact (⟨z29, rfl, hok, by omega, by omega, by rw [ht]; exact hI.1⟩), fun x9 hx9 => (by cases hx9)⟩, hI.2.F ht⟩) hI.2.2.2 d_Me_wordAt_38)
    · omega
abbrev q_Va_globalPlace (dC : Nat → ClassId) (dI : Nat → Nat → Nat) (cI cJ : ClassId) (a : Nat → Nat) (he dp co li op wd tl lc fo : Int) (sf lf nf : Nat → Int32) (x1 : Int32) : Outcome → State → Prop := fun o t => (∀ v, o = .returned v → ((∃ (z : Int32), v = some (.int z) ∧ okC he dp co li op wd tl lc fo sf lf nf ∧ ((-2147483648) ≤ z.toInt) ∧ (z.toInt ≤ 2147483647) ∧ (x1.toInt ≤ 47) ∧ sh_I (dC, dI) vcl cI cJ (gsC a he dp co li op wd tl lc fo sf lf nf) t.heap))) ∧ (∀ x, o = .threw x → ((ta_Ex "java/lang/IllegalArgumentException" x t ∧ okC he dp co li op wd tl lc fo sf lf nf ∧ (48 ≤ x1.toInt) ∧ sh_I (dC, dI) vcl cI cJ (gsC a he dp co li op wd tl lc fo sf lf nf) t.heap)))
def rm_Va_globalPlace : Room := { frames := 7, cells := 1, slots := 6, locals := 130 }
set_option maxHeartbeats 4000000 in
set_option maxRecDepth 100000 in
theorem c_Va_globalPlace (l : Launch) (hfl : l.flags = pinnedFlags ++ [noTraceFlag]) (dC : Nat → ClassId) (dI : Nat → Nat → Nat) (cI cJ : ClassId) (a : Nat → Nat) (sz : Nat) (he dp co li op wd tl lc fo : Int) (sf lf nf : Nat → Int32) (x1 : Int32) (hok : okC he dp co li op wd tl lc fo sf lf nf) : tz_Met l ⟨"StoryMachine$Variables", "globalPlace", "(I)I"⟩ tw_tbl rm_Va_globalPlace (tzP (dC, dI) vcl cI cJ (gsC a he dp co li op wd tl lc fo sf lf nf) a (adC a) [.ref (a 16), .int x1] sz) (tq_Q (q_Va_globalPlace dC dI cI cJ a he dp co li op wd tl lc fo sf lf nf x1) (ga (adC a) sz)) 0 0 1 6 (ga (adC a) sz) := by
  refine tz_ofW (cc := prog_11_method_4_code) (maxL := 2) (ret := (some .int)) (by decide) (tx_isM mw_559) ?_
  intro p e s m args below meth c s₁ B hml hv
  obtain ⟨rfl, hsz, hI0, hK, hst0⟩ := hv
  have hx := B.exec
  have hb := B.bytes
  have hr := B.returns
  have hts := atoms_spec (ws := tw_tbl) B.pre
  have hown : s.vm.findClass "StoryMachine$Variables" = some m.cls := findClass_of_methodNamed B.named
  have hlocks := B.notSynchronized
  subst hsz
  have hst := fun (H : Heap) (locs : List Loc) (hS : va_S (ga (adC a) s.heap.size) s.heap H locs) (U : State) (hU : U.heap = H) (hW : s.WarmedH U.vm) => zS_all adC_map hI0 hst0 hS hU hW
  have hAC : ∀ q ∈ adC a, ga (adC a) s.heap.size q := fun q h => Or.inl h
  have hA0 : ∀ q, s.heap.size ≤ q → ga (adC a) s.heap.size q := fun q h => Or.inr h
  have hI : sI (dC, dI) vcl cI cJ (gsC a he dp co li op wd tl lc fo sf lf nf) (ga (adC a) s.heap.size) s.heap s.heap [] := ⟨hI0, va_S.rf⟩
  clear hI0 hst0
  have hl := lv_entry ([.ref (a 16), .int x1]) (n := 2) (Nat.le_of_ble_eq_true rfl)
  rw [lg_entry_eq]
  generalize (lg_sl ([.ref (a 16), .int x1]) ++ List.replicate (2 - (lg_sl ([.ref (a 16), .int x1])).length) Slot.unset).toArray = ls at hl ⊢
  have hl : lv_has ls 2 [(0, .ref (a 16)), (1, .int x1)] := hl
  generalize hZ : tz_MQ below (tq_Q (q_Va_globalPlace dC dI cI cJ a he dp co li op wd tl lc fo sf lf nf x1) (ga (adC a) s.heap.size)) ([.ref (a 16), .int x1] : List Value).toArray s 0 0 1 6 (ga (adC a) s.heap.size) = Z
  obtain ⟨A, hAe⟩ : ∃ A, A = ga (adC a) s.heap.size := ⟨_, rfl⟩
  rw [← hAe] at hst hAC hA0 hI hZ
  refine sv_start hI (fun H locs hI => ?_)
  obtain ⟨⟨o1, o2⟩, ⟨o3, o4⟩, ⟨o5, o6⟩, ⟨o7, o8⟩, ⟨o9, o10⟩, ⟨o11, o12⟩, ⟨o13, o14⟩, ⟨o15, o16⟩, ⟨o17, o18⟩, o19, -, -⟩ := id hok
  have gx1 := sn_rng x1
  refine lv_iload_n hx hb d_Va_globalPlace_0 rfl (lv_at hl 1 rfl) ?_
  refine sn_bipush hx hb d_Va_globalPlace_1 (by decide) (fun z20 hz20 => ?_)
  refine sn_icmp_lt (tgt := 14) hx hb d_Va_globalPlace_3 (by decide) (fun b21 => ?_) (fun b21 => ?_)
  · refine lv_aload_n hx hb d_Va_globalPlace_14 rfl (lv_at hl 0 rfl) ?_
    refine sv_getr (C := "StoryMachine$Variables") (T := T_Va) (N := 2) hx hb hts in_Va hown hK hI 16 kC_16 rfl 0 (by decide) (hts _ mw_168) rfl d_Va_globalPlace_15 ?_
    refine sn_bipush hx hb d_Va_globalPlace_18 (by decide) (fun z22 hz22 => ?_)
    refine tz_call (A1 := ga (adC a) H.size) (tz_runV (C := "StoryMachine$Memory") (As := [.int z22]) (rest := []) ⟨hx, hb, hml, hown, hts⟩ (c_Me_wordAts l hfl dC dI cI cJ a H.size he dp co li op wd tl lc fo sf lf nf z22 hok (by omega) (by omega)) (tx_cb (n := 1) hts rfl rfl ⟨Nat.le_of_ble_eq_true rfl, Nat.le_of_ble_eq_true rfl⟩ (tx_code.of (hts _ mw_440)) (hts _ mw_2) (by decide +kernel) (hts _ mw_562)) (hts _ mw_438) (hts _ mw_439) ⟨tz_blind, sv_recv (q0 := 1) hts in_Me hK hI kC_1 rfl, fun U hU hW => ⟨rfl, by rw [hU], by rw [hU]; exact hI.1, va_K.moved hW.alike hK, hst _ _ hI.2 U hU hW⟩⟩ rfl rfl hl.1 rfl (lv_room (Nat.le_of_ble_eq_true rfl)) d_Va_globalPlace_20 ⟨Nat.le_of_ble_eq_true rfl, Nat.le_of_ble_eq_true rfl⟩) hI.2 (fun q _ h => ga_sub hAC hA0 hI.2 q h) (ga_sub hAC hA0 hI.2) (fun v t H1 locs1 ht hWt hpost _ _ hS => ?_) (fun x t H1 locs1 ht hWt hpost _ _ hS => (hpost.2 x rfl).elim)
    rcases hpost.1 _ rfl with ⟨z23, hv, c24, c24_0, c24_1, hI1⟩
    cases hv
    have hI : sI (dC, dI) vcl cI cJ (gsC a he dp co li op wd tl lc fo sf lf nf) A s.heap H1 locs1 := ⟨by rw [← ht]; exact hI1, hS⟩
    clear hpost hI1 hS ht hWt
    revert hI; generalize H1 = H; generalize locs1 = locs; intro hI
    refine sn_iconst hx hb d_Va_globalPlace_23 (by decide) (fun z25 hz25 => ?_)
    refine lv_iload_n hx hb d_Va_globalPlace_24 rfl (lv_at hl 1 rfl) ?_
    refine sn_bipush hx hb d_Va_globalPlace_25 (by decide) (fun z26 hz26 => ?_)
    refine sn_isubT hx hb d_Va_globalPlace_27 (fun z27 hz27a hz27b => ?_)
    refine sn_imulT hx hb d_Va_globalPlace_28 (fun z28 hz28a hz28b => ?_)
    refine sn_iaddT hx hb d_Va_globalPlace_29 (fun z29 hz29a hz29b => ?_)
    subst hZ
    exact tz_ret (W.iret (v := z29) hx hb hr (fun t ht hW => ⟨⟨fun v9 hv9 => by cases hv9; exact (⟨z29, rfl, c24, by omega, by omega, by omega, by rw [ht]; exact hI.1⟩), fun x9 hx9 => (by cases hx9)⟩, hI.2.F ht⟩) hI.2.2.2 d_Va_globalPlace_30)
  · refine W.widen (k := 0) (n := 0) (Nat.le_of_ble_eq_true rfl) (Nat.le_of_ble_eq_true rfl) ?_
    subst hZ
    exact tz_thrown (tth_Va_IllegalArgumentException hx hb hfl hown hts (fun U hU hW => (hst _ _ hI.2 U hU hW).1) (by rw [hml]; exact hl.1) d_Va_globalPlace_6 d_Va_globalPlace_9 d_Va_globalPlace_10 d_Va_globalPlace_13 (tx_noH B (hts _ mw_559) _) (Nat.le_of_ble_eq_true rfl) (Nat.le_of_ble_eq_true rfl) (Nat.le_of_ble_eq_true rfl) (Nat.le_of_ble_eq_true rfl) (fun t ce hW hz hk hce hcl hvm => ⟨⟨⟨fun v9 hv9 => (by cases hv9), fun x9 hx9 => by cases hx9; exact (⟨⟨ce, hce, hcl, hvm⟩, hok, by omega, sh_kept hI.1 hk⟩)⟩, ta_thrown hI.2 hz hk⟩, _, rfl⟩) hI.2.2.2 hlocks)
