abbrev q_SM_output (dC : Nat → ClassId) (dI : Nat → Nat → Nat) (cI cJ : ClassId) (a : Nat → Nat) (he dp co li op wd tl lc fo : Int) (sf lf nf : Nat → Int32) (x1 : Int32) : Outcome → State → Prop := fun o t => (∀ v, o = .returned v → ((∃ (z : Int32), v = some (.int z) ∧ okC he dp co li op wd tl lc fo sf lf nf ∧ ((-2147483648) ≤ z.toInt) ∧ (z.toInt ≤ 2147483647) ∧ ((-1) ≤ x1.toInt) ∧ (x1.toInt ≤ 63) ∧ sh_I (dC, dI) vcl cI cJ (gsC a he dp co li op wd tl lc fo sf lf nf) t.heap))) ∧ (∀ x, o = .threw x → ((ta_Ex "java/lang/IndexOutOfBoundsException" x t ∧ okC he dp co li op wd tl lc fo sf lf nf ∧ sh_I (dC, dI) vcl cI cJ (gsC a he dp co li op wd tl lc fo sf lf nf) t.heap)))
def rm_SM_output : Room := { frames := 7, cells := 1, slots := 6, locals := 130 }
set_option maxHeartbeats 4000000 in
set_option maxRecDepth 100000 in
theorem c_SM_output (l : Launch) (hfl : l.flags = pinnedFlags ++ [noTraceFlag]) (dC : Nat → ClassId) (dI : Nat → Nat → Nat) (cI cJ : ClassId) (a : Nat → Nat) (sz : Nat) (he dp co li op wd tl lc fo : Int) (sf lf nf : Nat → Int32) (x1 : Int32) (hok : okC he dp co li op wd tl lc fo sf lf nf) : tz_Met l ⟨"StoryMachine", "output", "(I)I"⟩ tw_tbl rm_SM_output (tzP (dC, dI) vcl cI cJ (gsC a he dp co li op wd tl lc fo sf lf nf) a (adC a) [.ref (a 0), .int x1] sz) (tq_Q (q_SM_output dC dI cI cJ a he dp co li op wd tl lc fo sf lf nf x1) (ga (adC a) sz)) 0 0 1 6 (ga (adC a) sz) := by
  refine tz_ofW (cc := prog_1_method_10_code) (maxL := 2) (ret := (some .int)) (by decide) (tx_isM mw_1018) ?_
  intro p e s m args below meth c s₁ B hml hv
  obtain ⟨rfl, hsz, hI0, hK, hst0⟩ := hv
  have hx := B.exec
  have hb := B.bytes
  have hr := B.returns
  have hts := atoms_spec (ws := tw_tbl) B.pre
  have hown : s.vm.findClass "StoryMachine" = some m.cls := findClass_of_methodNamed B.named
  have hlocks := B.notSynchronized
  subst hsz
  have hst := fun (H : Heap) (locs : List Loc) (hS : va_S (ga (adC a) s.heap.size) s.heap H locs) (U : State) (hU : U.heap = H) (hW : s.WarmedH U.vm) => zS_all adC_map hI0 hst0 hS hU hW
  have hAC : ∀ q ∈ adC a, ga (adC a) s.heap.size q := fun q h => Or.inl h
  have hA0 : ∀ q, s.heap.size ≤ q → ga (adC a) s.heap.size q := fun q h => Or.inr h
  have hI : sI (dC, dI) vcl cI cJ (gsC a he dp co li op wd tl lc fo sf lf nf) (ga (adC a) s.heap.size) s.heap s.heap [] := ⟨hI0, va_S.rf⟩
  clear hI0 hst0
  have hl := lv_entry ([.ref (a 0), .int x1]) (n := 2) (Nat.le_of_ble_eq_true rfl)
  rw [lg_entry_eq]
  generalize (lg_sl ([.ref (a 0), .int x1]) ++ List.replicate (2 - (lg_sl ([.ref (a 0), .int x1])).length) Slot.unset).toArray = ls at hl ⊢
  have hl : lv_has ls 2 [(0, .ref (a 0)), (1, .int x1)] := hl
  generalize hZ : tz_MQ below (tq_Q (q_SM_output dC dI cI cJ a he dp co li op wd tl lc fo sf lf nf x1) (ga (adC a) s.heap.size)) ([.ref (a 0), .int x1] : List Value).toArray s 0 0 1 6 (ga (adC a) s.heap.size) = Z
  obtain ⟨A, hAe⟩ : ∃ A, A = ga (adC a) s.heap.size := ⟨_, rfl⟩
  rw [← hAe] at hst hAC hA0 hI hZ
  refine sv_start hI (fun H locs hI => ?_)
  obtain ⟨⟨o1, o2⟩, ⟨o3, o4⟩, ⟨o5, o6⟩, ⟨o7, o8⟩, ⟨o9, o10⟩, ⟨o11, o12⟩, ⟨o13, o14⟩, ⟨o15, o16⟩, ⟨o17, o18⟩, o19, -, -⟩ := id hok
  have gx1 := sn_rng x1
  have j22 : ∀ (H : Heap) (locs : List Loc) (ls : Array Slot), sI (dC, dI) vcl cI cJ (gsC a he dp co li op wd tl lc fo sf lf nf) A s.heap H locs → okC he dp co li op wd tl lc fo sf lf nf → lv_has ls 2 [(0, .ref (a 0)), (1, .int x1)] → W p l e (headSpec tw_tbl rm_SM_output).room s m ([.ref (a 0), .int x1] : List Value).toArray below meth c H locs 0 0 Z (F0 m 22 ls []) := by
    intro H locs ls hI hok hl
    obtain ⟨⟨o20, o21⟩, ⟨o22, o23⟩, ⟨o24, o25⟩, ⟨o26, o27⟩, ⟨o28, o29⟩, ⟨o30, o31⟩, ⟨o32, o33⟩, ⟨o34, o35⟩, ⟨o36, o37⟩, o38, -, -⟩ := id hok
    refine W.widen (k := 0) (n := 0) (Nat.le_of_ble_eq_true rfl) (Nat.le_of_ble_eq_true rfl) ?_
    subst hZ
    exact tz_thrown (tth_SM_IndexOutOfBoundsException hx hb hfl hown hts (fun U hU hW => (hst _ _ hI.2 U hU hW).1) (by rw [hml]; exact hl.1) d_SM_output_22 d_SM_output_25 d_SM_output_26 d_SM_output_29 (tx_noH B (hts _ mw_1018) _) (Nat.le_of_ble_eq_true rfl) (Nat.le_of_ble_eq_true rfl) (Nat.le_of_ble_eq_true rfl) (Nat.le_of_ble_eq_true rfl) (fun t ce hW hz hk hce hcl hvm => ⟨⟨⟨fun v9 hv9 => (by cases hv9), fun x9 hx9 => by cases hx9; exact (⟨⟨ce, hce, hcl, hvm⟩, hok, sh_kept hI.1 hk⟩)⟩, ta_thrown hI.2 hz hk⟩, _, rfl⟩) hI.2.2.2 hlocks)
  refine lv_iload_n hx hb d_SM_output_0 rfl (lv_at hl 1 rfl) ?_
  refine sn_iconst hx hb d_SM_output_1 (by decide) (fun z39 hz39 => ?_)
  refine sn_icmp_lt (tgt := 22) hx hb d_SM_output_2 (by decide) (fun b40 => ?_) (fun b40 => ?_)
  · exact j22 _ _ _  hI hok (lv_sub hl [0, 1] rfl)
  · refine lv_iload_n hx hb d_SM_output_5 rfl (lv_at hl 1 rfl) ?_
    refine sn_bipush hx hb d_SM_output_6 (by decide) (fun z41 hz41 => ?_)
    refine sn_icmp_ge (tgt := 22) hx hb d_SM_output_8 (by decide) (fun b42 => ?_) (fun b42 => ?_)
    · exact j22 _ _ _  hI hok (lv_sub hl [0, 1] rfl)
    · refine lv_iload_n hx hb d_SM_output_11 rfl (lv_at hl 1 rfl) ?_
      refine lv_aload_n hx hb d_SM_output_12 rfl (lv_at hl 0 rfl) ?_
      refine sv_getr (C := "StoryMachine") (T := T_SM) (N := 5) hx hb hts in_SM hown hK hI 0 kC_0 rfl 3 (by decide) (hts _ mw_313) rfl d_SM_output_13 ?_
      refine sv_get (C := "StoryMachine$Printer") (T := T_Pr) (N := 5) hx hb hts in_Pr hown hK hI 4 kC_4 rfl 2 (by decide) (hts _ mw_118) rfl d_SM_output_16 (fun z43 hz43a hz43b => ?_)
      refine sn_icmp_lt (tgt := 30) hx hb d_SM_output_19 (by decide) (fun b44 => ?_) (fun b44 => ?_)
      · refine lv_iload_n hx hb d_SM_output_30 rfl (lv_at hl 1 rfl) ?_
        refine sn_iconst hx hb d_SM_output_31 (by decide) (fun z45 hz45 => ?_)
        refine sn_icmp_ne (tgt := 45) hx hb d_SM_output_32 (by decide) (fun b46 => ?_) (fun b46 => ?_)
        · refine lv_aload_n hx hb d_SM_output_45 rfl (lv_at hl 0 rfl) ?_
          refine sv_getr (C := "StoryMachine") (T := T_SM) (N := 5) hx hb hts in_SM hown hK hI 0 kC_0 rfl 3 (by decide) (hts _ mw_313) rfl d_SM_output_46 ?_
          refine lv_iload_n hx hb d_SM_output_49 rfl (lv_at hl 1 rfl) ?_
          refine tz_call (A1 := ga (adC a) H.size) (tz_runV (C := "StoryMachine$Printer") (As := [.int x1]) (rest := []) ⟨hx, hb, hml, hown, hts⟩ (c_Pr_latest l hfl dC dI cI cJ a H.size he dp co li op wd tl lc fo sf lf nf x1 hok) (tx_cb (n := 1) hts rfl rfl ⟨Nat.le_of_ble_eq_true rfl, Nat.le_of_ble_eq_true rfl⟩ (tx_code.of (hts _ mw_1037)) (hts _ mw_5) (by decide +kernel) (hts _ mw_1034)) (hts _ mw_1035) (hts _ mw_1036) ⟨tz_blind, sv_recv (q0 := 4) hts in_Pr hK hI kC_4 rfl, fun U hU hW => ⟨rfl, by rw [hU], by rw [hU]; exact hI.1, va_K.moved hW.alike hK, hst _ _ hI.2 U hU hW⟩⟩ rfl rfl hl.1 rfl (lv_room (Nat.le_of_ble_eq_true rfl)) d_SM_output_50 ⟨Nat.le_of_ble_eq_true rfl, Nat.le_of_ble_eq_true rfl⟩) hI.2 (fun q _ h => ga_sub hAC hA0 hI.2 q h) (ga_sub hAC hA0 hI.2) (fun v t H1 locs1 ht hWt hpost _ _ hS => ?_) (fun x t H1 locs1 ht hWt hpost _ _ hS => (hpost.2 x rfl).elim)
          rcases hpost.1 _ rfl with ⟨z47, hv, c48, c48_0, c48_1, hI1⟩
          cases hv
          have hI : sI (dC, dI) vcl cI cJ (gsC a he dp co li op wd tl lc fo sf lf nf) A s.heap H1 locs1 := ⟨by rw [← ht]; exact hI1, hS⟩
          clear hpost hI1 hS ht hWt
          revert hI; generalize H1 = H; generalize locs1 = locs; intro hI
          subst hZ
          exact tz_ret (W.iret (v := z47) hx hb hr (fun t ht hW => ⟨⟨fun v9 hv9 => by cases hv9; exact (⟨z47, rfl, c48, by omega, by omega, by omega, by omega, by rw [ht]; exact hI.1⟩), fun x9 hx9 => (by cases hx9)⟩, hI.2.F ht⟩) hI.2.2.2 d_SM_output_53)
        · refine lv_aload_n hx hb d_SM_output_35 rfl (lv_at hl 0 rfl) ?_
          refine sv_getr (C := "StoryMachine") (T := T_SM) (N := 5) hx hb hts in_SM hown hK hI 0 kC_0 rfl 3 (by decide) (hts _ mw_313) rfl d_SM_output_36 ?_
          refine sv_get (C := "StoryMachine$Printer") (T := T_Pr) (N := 5) hx hb hts in_Pr hown hK hI 4 kC_4 rfl 2 (by decide) (hts _ mw_118) rfl d_SM_output_39 (fun z49 hz49a hz49b => ?_)
          refine lv_goto (tgt := 53) hx hb d_SM_output_42 (by decide) ?_
          subst hZ
          exact tz_ret (W.iret (v := z49) hx hb hr (fun t ht hW => ⟨⟨fun v9 hv9 => by cases hv9; exact (⟨z49, rfl, hok, by omega, by omega, by omega, by omega, by rw [ht]; exact hI.1⟩), fun x9 hx9 => (by cases hx9)⟩, hI.2.F ht⟩) hI.2.2.2 d_SM_output_53)
      · exact j22 _ _ _  hI hok (lv_sub hl [0, 1] rfl)
abbrev q_SM_stack (dC : Nat → ClassId) (dI : Nat → Nat → Nat) (cI cJ : ClassId) (a : Nat → Nat) (he dp co li op wd tl lc fo : Int) (sf lf nf : Nat → Int32) (x1 : Int32) : Outcome → State → Prop := fun o t => (∀ v, o = .returned v → ((∃ (z : Int32), v = some (.int z) ∧ okC he dp co li op wd tl lc fo sf lf nf ∧ (0 ≤ z.toInt) ∧ (z.toInt ≤ 65535) ∧ ((-1) ≤ x1.toInt) ∧ (x1.toInt ≤ 47) ∧ sh_I (dC, dI) vcl cI cJ (gsC a he dp co li op wd tl lc fo sf lf nf) t.heap))) ∧ (∀ x, o = .threw x → ((ta_Ex "java/lang/IndexOutOfBoundsException" x t ∧ okC he dp co li op wd tl lc fo sf lf nf ∧ sh_I (dC, dI) vcl cI cJ (gsC a he dp co li op wd tl lc fo sf lf nf) t.heap)))
def rm_SM_stack : Room := { frames := 7, cells := 1, slots := 6, locals := 130 }
set_option maxHeartbeats 4000000 in
set_option maxRecDepth 100000 in
theorem c_SM_stack (l : Launch) (hfl : l.flags = pinnedFlags ++ [noTraceFlag]) (dC : Nat → ClassId) (dI : Nat → Nat → Nat) (cI cJ : ClassId) (a : Nat → Nat) (sz : Nat) (he dp co li op wd tl lc fo : Int) (sf lf nf : Nat → Int32) (x1 : Int32) (hok : okC he dp co li op wd tl lc fo sf lf nf) : tz_Met l ⟨"StoryMachine", "stack", "(I)I"⟩ tw_tbl rm_SM_stack (tzP (dC, dI) vcl cI cJ (gsC a he dp co li op wd tl lc fo sf lf nf) a (adC a) [.ref (a 0), .int x1] sz) (tq_Q (q_SM_stack dC dI cI cJ a he dp co li op wd tl lc fo sf lf nf x1) (ga (adC a) sz)) 0 0 1 6 (ga (adC a) sz) := by
  refine tz_ofW (cc := prog_1_method_11_code) (maxL := 2) (ret := (some .int)) (by decide) (tx_isM mw_1044) ?_
  intro p e s m args below meth c s₁ B hml hv
  obtain ⟨rfl, hsz, hI0, hK, hst0⟩ := hv
  have hx := B.exec
  have hb := B.bytes
  have hr := B.returns
  have hts := atoms_spec (ws := tw_tbl) B.pre
  have hown : s.vm.findClass "StoryMachine" = some m.cls := findClass_of_methodNamed B.named
  have hlocks := B.notSynchronized
  subst hsz
  have hst := fun (H : Heap) (locs : List Loc) (hS : va_S (ga (adC a) s.heap.size) s.heap H locs) (U : State) (hU : U.heap = H) (hW : s.WarmedH U.vm) => zS_all adC_map hI0 hst0 hS hU hW
  have hAC : ∀ q ∈ adC a, ga (adC a) s.heap.size q := fun q h => Or.inl h
  have hA0 : ∀ q, s.heap.size ≤ q → ga (adC a) s.heap.size q := fun q h => Or.inr h
  have hI : sI (dC, dI) vcl cI cJ (gsC a he dp co li op wd tl lc fo sf lf nf) (ga (adC a) s.heap.size) s.heap s.heap [] := ⟨hI0, va_S.rf⟩
  clear hI0 hst0
  have hl := lv_entry ([.ref (a 0), .int x1]) (n := 2) (Nat.le_of_ble_eq_true rfl)
  rw [lg_entry_eq]
  generalize (lg_sl ([.ref (a 0), .int x1]) ++ List.replicate (2 - (lg_sl ([.ref (a 0), .int x1])).length) Slot.unset).toArray = ls at hl ⊢
  have hl : lv_has ls 2 [(0, .ref (a 0)), (1, .int x1)] := hl
  generalize hZ : tz_MQ below (tq_Q (q_SM_stack dC dI cI cJ a he dp co li op wd tl lc fo sf lf nf x1) (ga (adC a) s.heap.size)) ([.ref (a 0), .int x1] : List Value).toArray s 0 0 1 6 (ga (adC a) s.heap.size) = Z
  obtain ⟨A, hAe⟩ : ∃ A, A = ga (adC a) s.heap.size := ⟨_, rfl⟩
  rw [← hAe] at hst hAC hA0 hI hZ
  refine sv_start hI (fun H locs hI => ?_)
  obtain ⟨⟨o1, o2⟩, ⟨o3, o4⟩, ⟨o5, o6⟩, ⟨o7, o8⟩, ⟨o9, o10⟩, ⟨o11, o12⟩, ⟨o13, o14⟩, ⟨o15, o16⟩, ⟨o17, o18⟩, o19, -, -⟩ := id hok
  have gx1 := sn_rng x1
  have j16 : ∀ (H : Heap) (locs : List Loc) (ls : Array Slot), sI (dC, dI) vcl cI cJ (gsC a he dp co li op wd tl lc fo sf lf nf) A s.heap H locs → okC he dp co li op wd tl lc fo sf lf nf → lv_has ls 2 [(0, .ref (a 0)), (1, .int x1)] → W p l e (headSpec tw_tbl rm_SM_stack).room s m ([.ref (a 0), .int x1] : List Value).toArray below meth c H locs 0 0 Z (F0 m 16 ls []) := by
    intro H locs ls hI hok hl
    obtain ⟨⟨o20, o21⟩, ⟨o22, o23⟩, ⟨o24, o25⟩, ⟨o26, o27⟩, ⟨o28, o29⟩, ⟨o30, o31⟩, ⟨o32, o33⟩, ⟨o34, o35⟩, ⟨o36, o37⟩, o38, -, -⟩ := id hok
    refine W.widen (k := 0) (n := 0) (Nat.le_of_ble_eq_true rfl) (Nat.le_of_ble_eq_true rfl) ?_
    subst hZ
    exact tz_thrown (tth_SM_IndexOutOfBoundsException hx hb hfl hown hts (fun U hU hW => (hst _ _ hI.2 U hU hW).1) (by rw [hml]; exact hl.1) d_SM_stack_16 d_SM_stack_19 d_SM_stack_20 d_SM_stack_23 (tx_noH B (hts _ mw_1044) _) (Nat.le_of_ble_eq_true rfl) (Nat.le_of_ble_eq_true rfl) (Nat.le_of_ble_eq_true rfl) (Nat.le_of_ble_eq_true rfl) (fun t ce hW hz hk hce hcl hvm => ⟨⟨⟨fun v9 hv9 => (by cases hv9), fun x9 hx9 => by cases hx9; exact (⟨⟨ce, hce, hcl, hvm⟩, hok, sh_kept hI.1 hk⟩)⟩, ta_thrown hI.2 hz hk⟩, _, rfl⟩) hI.2.2.2 hlocks)
  refine lv_iload_n hx hb d_SM_stack_0 rfl (lv_at hl 1 rfl) ?_
  refine sn_iconst hx hb d_SM_stack_1 (by decide) (fun z39 hz39 => ?_)
  refine sn_icmp_lt (tgt := 16) hx hb d_SM_stack_2 (by decide) (fun b40 => ?_) (fun b40 => ?_)
  · exact j16 _ _ _  hI hok (lv_sub hl [0, 1] rfl)
  · refine lv_iload_n hx hb d_SM_stack_5 rfl (lv_at hl 1 rfl) ?_
    refine lv_aload_n hx hb d_SM_stack_6 rfl (lv_at hl 0 rfl) ?_
    refine sv_getr (C := "StoryMachine") (T := T_SM) (N := 5) hx hb hts in_SM hown hK hI 0 kC_0 rfl 2 (by decide) (hts _ mw_312) rfl d_SM_stack_7 ?_
    refine sv_gete (C := "StoryMachine$Routines") (T := T_Ro) (N := 8) hx hb hts in_Ro hown hK hI 3 kC_3 rfl 1 (by decide) (hts _ mw_83) rfl d_SM_stack_10 (fun z41 hz41 => ?_)
    refine sn_icmp_lt (tgt := 24) hx hb d_SM_stack_13 (by decide) (fun b42 => ?_) (fun b42 => ?_)
    · refine lv_iload_n hx hb d_SM_stack_24 rfl (lv_at hl 1 rfl) ?_
      refine sn_iconst hx hb d_SM_stack_25 (by decide) (fun z43 hz43 => ?_)
      refine sn_icmp_ne (tgt := 39) hx hb d_SM_stack_26 (by decide) (fun b44 => ?_) (fun b44 => ?_)
      · refine lv_aload_n hx hb d_SM_stack_39 rfl (lv_at hl 0 rfl) ?_
        refine sv_getr (C := "StoryMachine") (T := T_SM) (N := 5) hx hb hts in_SM hown hK hI 0 kC_0 rfl 2 (by decide) (hts _ mw_312) rfl d_SM_stack_40 ?_
        refine sv_getr (C := "StoryMachine$Routines") (T := T_Ro) (N := 8) hx hb hts in_Ro hown hK hI 3 kC_3 rfl 0 (by decide) (hts _ mw_81) rfl d_SM_stack_43 ?_
        refine lv_aload_n hx hb d_SM_stack_46 rfl (lv_at hl 0 rfl) ?_
        refine sv_getr (C := "StoryMachine") (T := T_SM) (N := 5) hx hb hts in_SM hown hK hI 0 kC_0 rfl 2 (by decide) (hts _ mw_312) rfl d_SM_stack_47 ?_
        refine sv_gete (C := "StoryMachine$Routines") (T := T_Ro) (N := 8) hx hb hts in_Ro hown hK hI 3 kC_3 rfl 1 (by decide) (hts _ mw_83) rfl d_SM_stack_50 (fun z45 hz45 => ?_)
        refine sn_iconst hx hb d_SM_stack_53 (by decide) (fun z46 hz46 => ?_)
        refine sn_isub hx hb d_SM_stack_54 (by omega) (by omega) (fun z47 hz47 => ?_)
        refine lv_iload_n hx hb d_SM_stack_55 rfl (lv_at hl 1 rfl) ?_
        refine sn_isub hx hb d_SM_stack_56 (by omega) (by omega) (fun z48 hz48 => ?_)
        refine sv_ialdr hx hb hK hI 9 kC_9 (by omega) (by omega) d_SM_stack_57 (fun z49 hz49a hz49b => ?_)
        subst hZ
        exact tz_ret (W.iret (v := z49) hx hb hr (fun t ht hW => ⟨⟨fun v9 hv9 => by cases hv9; exact (⟨z49, rfl, hok, by omega, by omega, by omega, by omega, by rw [ht]; exact hI.1⟩), fun x9 hx9 => (by cases hx9)⟩, hI.2.F ht⟩) hI.2.2.2 d_SM_stack_58)
      · refine lv_aload_n hx hb d_SM_stack_29 rfl (lv_at hl 0 rfl) ?_
        refine sv_getr (C := "StoryMachine") (T := T_SM) (N := 5) hx hb hts in_SM hown hK hI 0 kC_0 rfl 2 (by decide) (hts _ mw_312) rfl d_SM_stack_30 ?_
        refine sv_gete (C := "StoryMachine$Routines") (T := T_Ro) (N := 8) hx hb hts in_Ro hown hK hI 3 kC_3 rfl 1 (by decide) (hts _ mw_83) rfl d_SM_stack_33 (fun z50 hz50 => ?_)
        refine lv_goto (tgt := 58) hx hb d_SM_stack_36 (by decide) ?_
        subst hZ
        exact tz_ret (W.iret (v := z50) hx hb hr (fun t ht hW => ⟨⟨fun v9 hv9 => by cases hv9; exact (⟨z50, rfl, hok, by omega, by omega, by omega, by omega, by rw [ht]; exact hI.1⟩), fun x9 hx9 => (by cases hx9)⟩, hI.2.F ht⟩) hI.2.2.2 d_SM_stack_58)
    · exact j16 _ _ _  hI hok (lv_sub hl [0, 1] rfl)
abbrev q_Ro_localValuex (dC : Nat → ClassId) (dI : Nat → Nat → Nat) (cI cJ : ClassId) (a : Nat → Nat) (he dp co li op wd tl lc fo : Int) (sf lf nf : Nat → Int32) (x1 : Int32) : Outcome → State → Prop := fun o t => (∀ v, o = .returned v → ((∃ (z : Int32), v = some (.int z) ∧ okC he dp co li op wd tl lc fo sf lf nf ∧ (0 ≤ z.toInt) ∧ (z.toInt ≤ 65535) ∧ sh_I (dC, dI) vcl cI cJ (gsC a he dp co li op wd tl lc fo sf lf nf) t.heap))) ∧ (∀ x, o = .threw x → (False))
def rm_Ro_localValuex : Room := { frames := 0, cells := 0, slots := 0, locals := 0 }
set_option maxHeartbeats 4000000 in
set_option maxRecDepth 100000 in
theorem c_Ro_localValuex (l : Launch) (hfl : l.flags = pinnedFlags ++ [noTraceFlag]) (dC : Nat → ClassId) (dI : Nat → Nat → Nat) (cI cJ : ClassId) (a : Nat → Nat) (sz : Nat) (he dp co li op wd tl lc fo : Int) (sf lf nf : Nat → Int32) (x1 : Int32) (hok : okC he dp co li op wd tl lc fo sf lf nf) (hp0 : 1 ≤ x1.toInt) (hp1 : x1.toInt ≤ 15) (hp2 : x1.toInt ≤ (nf dp.toNat).toInt) : tz_Met l ⟨"StoryMachine$Routines", "localValue", "(I)I"⟩ tw_tbl rm_Ro_localValuex (tzP (dC, dI) vcl cI cJ (gsC a he dp co li op wd tl lc fo sf lf nf) a (adC a) [.ref (a 3), .int x1] sz) (tq_Q (q_Ro_localValuex dC dI cI cJ a he dp co li op wd tl lc fo sf lf nf x1) (ga (adC a) sz)) 0 0 0 0 (ga (adC a) sz) := by
  refine tz_ofW (cc := prog_9_method_8_code) (maxL := 2) (ret := (some .int)) (by decide) (tx_isM mw_553) ?_
  intro p e s m args below meth c s₁ B hml hv
  obtain ⟨rfl, hsz, hI0, hK, hst0⟩ := hv
  have hx := B.exec
  have hb := B.bytes
  have hr := B.returns
  have hts := atoms_spec (ws := tw_tbl) B.pre
  have hown : s.vm.findClass "StoryMachine$Routines" = some m.cls := findClass_of_methodNamed B.named
  have hlocks := B.notSynchronized
  subst hsz
  have hst := fun (H : Heap) (locs : List Loc) (hS : va_S (ga (adC a) s.heap.size) s.heap H locs) (U : State) (hU : U.heap = H) (hW : s.WarmedH U.vm) => zS_all adC_map hI0 hst0 hS hU hW
  have hAC : ∀ q ∈ adC a, ga (adC a) s.heap.size q := fun q h => Or.inl h
  have hA0 : ∀ q, s.heap.size ≤ q → ga (adC a) s.heap.size q := fun q h => Or.inr h
  have hI : sI (dC, dI) vcl cI cJ (gsC a he dp co li op wd tl lc fo sf lf nf) (ga (adC a) s.heap.size) s.heap s.heap [] := ⟨hI0, va_S.rf⟩
  clear hI0 hst0
  have hl := lv_entry ([.ref (a 3), .int x1]) (n := 2) (Nat.le_of_ble_eq_true rfl)
  rw [lg_entry_eq]
  generalize (lg_sl ([.ref (a 3), .int x1]) ++ List.replicate (2 - (lg_sl ([.ref (a 3), .int x1])).length) Slot.unset).toArray = ls at hl ⊢
  have hl : lv_has ls 2 [(0, .ref (a 3)), (1, .int x1)] := hl
  generalize hZ : tz_MQ below (tq_Q (q_Ro_localValuex dC dI cI cJ a he dp co li op wd tl lc fo sf lf nf x1) (ga (adC a) s.heap.size)) ([.ref (a 3), .int x1] : List Value).toArray s 0 0 0 0 (ga (adC a) s.heap.size) = Z
  obtain ⟨A, hAe⟩ : ∃ A, A = ga (adC a) s.heap.size := ⟨_, rfl⟩
  rw [← hAe] at hst hAC hA0 hI hZ
  refine sv_start hI (fun H locs hI => ?_)
  obtain ⟨⟨o1, o2⟩, ⟨o3, o4⟩, ⟨o5, o6⟩, ⟨o7, o8⟩, ⟨o9, o10⟩, ⟨o11, o12⟩, ⟨o13, o14⟩, ⟨o15, o16⟩, ⟨o17, o18⟩, o19, -, -⟩ := id hok
  have gx1 := sn_rng x1
  refine lv_iload_n hx hb d_Ro_localValue_0 rfl (lv_at hl 1 rfl) ?_
  refine sn_iconst hx hb d_Ro_localValue_1 (by decide) (fun z20 hz20 => ?_)
  refine sn_icmp_lt (tgt := 18) hx hb d_Ro_localValue_2 (by decide) (fun b21 => ?_) (fun b21 => ?_)
  · omega
  · refine lv_iload_n hx hb d_Ro_localValue_5 rfl (lv_at hl 1 rfl) ?_
    refine lv_aload_n hx hb d_Ro_localValue_6 rfl (lv_at hl 0 rfl) ?_
    refine sv_getr (C := "StoryMachine$Routines") (T := T_Ro) (N := 8) hx hb hts in_Ro hown hK hI 3 kC_3 rfl 6 (by decide) (hts _ mw_89) rfl d_Ro_localValue_7 ?_
    refine lv_aload_n hx hb d_Ro_localValue_10 rfl (lv_at hl 0 rfl) ?_
    refine sv_gete (C := "StoryMachine$Routines") (T := T_Ro) (N := 8) hx hb hts in_Ro hown hK hI 3 kC_3 rfl 2 (by decide) (hts _ mw_84) rfl d_Ro_localValue_11 (fun z22 hz22 => ?_)
    refine sv_ialde hx hb hK hI 13 kC_13 (by omega) (by omega) d_Ro_localValue_14 (fun z23 hz23 => ?_)
    have hz23r := hok.2.2.2.2.2.2.2.2.2.2.2 (z22.toNatClampNeg)
    rw [← hz23] at hz23r
    have hz23x : z23.toInt = (nf z22.toInt.toNat).toInt := by rw [hz23]; rfl
    rw [hz22] at hz23x
    refine sn_icmp_le (tgt := 26) hx hb d_Ro_localValue_15 (by decide) (fun b24 => ?_) (fun b24 => ?_)
    · refine lv_aload_n hx hb d_Ro_localValue_26 rfl (lv_at hl 0 rfl) ?_
      refine sv_getr (C := "StoryMachine$Routines") (T := T_Ro) (N := 8) hx hb hts in_Ro hown hK hI 3 kC_3 rfl 7 (by decide) (hts _ mw_90) rfl d_Ro_localValue_27 ?_
      refine lv_aload_n hx hb d_Ro_localValue_30 rfl (lv_at hl 0 rfl) ?_
      refine sv_gete (C := "StoryMachine$Routines") (T := T_Ro) (N := 8) hx hb hts in_Ro hown hK hI 3 kC_3 rfl 2 (by decide) (hts _ mw_84) rfl d_Ro_localValue_31 (fun z25 hz25 => ?_)
      refine sn_bipush hx hb d_Ro_localValue_34 (by decide) (fun z26 hz26 => ?_)
      refine sn_imulR (k := 15) hx hb d_Ro_localValue_36 (by omega) (by omega) (by omega) (fun z27 hz27 => ?_)
      refine lv_iload_n hx hb d_Ro_localValue_37 rfl (lv_at hl 1 rfl) ?_
      refine sn_iadd hx hb d_Ro_localValue_38 (by omega) (by omega) (fun z28 hz28 => ?_)
      refine sn_iconst hx hb d_Ro_localValue_39 (by decide) (fun z29 hz29 => ?_)
      refine sn_isub hx hb d_Ro_localValue_40 (by omega) (by omega) (fun z30 hz30 => ?_)
      refine sv_ialdr hx hb hK hI 14 kC_14 (by omega) (by omega) d_Ro_localValue_41 (fun z31 hz31a hz31b => ?_)
      subst hZ
      exact tz_ret (W.iret (v := z31) hx hb hr (fun t ht hW => ⟨⟨fun v9 hv9 => by cases hv9; exact (⟨z31, rfl, hok, by omega, by omega, by rw [ht]; exact hI.1⟩), fun x9 hx9 => (by cases hx9)⟩, hI.2.F ht⟩) hI.2.2.2 d_Ro_localValue_42)
    · exfalso; omega
abbrev q_SM_local (dC : Nat → ClassId) (dI : Nat → Nat → Nat) (cI cJ : ClassId) (a : Nat → Nat) (he dp co li op wd tl lc fo : Int) (sf lf nf : Nat → Int32) (x1 : Int32) : Outcome → State → Prop := fun o t => (∀ v, o = .returned v → ((∃ (z : Int32), v = some (.int z) ∧ okC he dp co li op wd tl lc fo sf lf nf ∧ (0 ≤ z.toInt) ∧ (z.toInt ≤ 65535) ∧ (0 ≤ x1.toInt) ∧ (x1.toInt ≤ 15) ∧ sh_I (dC, dI) vcl cI cJ (gsC a he dp co li op wd tl lc fo sf lf nf) t.heap))) ∧ (∀ x, o = .threw x → ((ta_Ex "java/lang/IndexOutOfBoundsException" x t ∧ okC he dp co li op wd tl lc fo sf lf nf ∧ sh_I (dC, dI) vcl cI cJ (gsC a he dp co li op wd tl lc fo sf lf nf) t.heap)))
def rm_SM_local : Room := { frames := 7, cells := 1, slots := 6, locals := 130 }
set_option maxHeartbeats 4000000 in
set_option maxRecDepth 100000 in
theorem c_SM_local (l : Launch) (hfl : l.flags = pinnedFlags ++ [noTraceFlag]) (dC : Nat → ClassId) (dI : Nat → Nat → Nat) (cI cJ : ClassId) (a : Nat → Nat) (sz : Nat) (he dp co li op wd tl lc fo : Int) (sf lf nf : Nat → Int32) (x1 : Int32) (hok : okC he dp co li op wd tl lc fo sf lf nf) : tz_Met l ⟨"StoryMachine", "local", "(I)I"⟩ tw_tbl rm_SM_local (tzP (dC, dI) vcl cI cJ (gsC a he dp co li op wd tl lc fo sf lf nf) a (adC a) [.ref (a 0), .int x1] sz) (tq_Q (q_SM_local dC dI cI cJ a he dp co li op wd tl lc fo sf lf nf x1) (ga (adC a) sz)) 0 0 1 6 (ga (adC a) sz) := by
  refine tz_ofW (cc := prog_1_method_12_code) (maxL := 2) (ret := (some .int)) (by decide) (tx_isM mw_1051) ?_
  intro p e s m args below meth c s₁ B hml hv
  obtain ⟨rfl, hsz, hI0, hK, hst0⟩ := hv
  have hx := B.exec
  have hb := B.bytes
  have hr := B.returns
  have hts := atoms_spec (ws := tw_tbl) B.pre
  have hown : s.vm.findClass "StoryMachine" = some m.cls := findClass_of_methodNamed B.named
  have hlocks := B.notSynchronized
  subst hsz
  have hst := fun (H : Heap) (locs : List Loc) (hS : va_S (ga (adC a) s.heap.size) s.heap H locs) (U : State) (hU : U.heap = H) (hW : s.WarmedH U.vm) => zS_all adC_map hI0 hst0 hS hU hW
  have hAC : ∀ q ∈ adC a, ga (adC a) s.heap.size q := fun q h => Or.inl h
  have hA0 : ∀ q, s.heap.size ≤ q → ga (adC a) s.heap.size q := fun q h => Or.inr h
  have hI : sI (dC, dI) vcl cI cJ (gsC a he dp co li op wd tl lc fo sf lf nf) (ga (adC a) s.heap.size) s.heap s.heap [] := ⟨hI0, va_S.rf⟩
  clear hI0 hst0
  have hl := lv_entry ([.ref (a 0), .int x1]) (n := 2) (Nat.le_of_ble_eq_true rfl)
  rw [lg_entry_eq]
  generalize (lg_sl ([.ref (a 0), .int x1]) ++ List.replicate (2 - (lg_sl ([.ref (a 0), .int x1])).length) Slot.unset).toArray = ls at hl ⊢
  have hl : lv_has ls 2 [(0, .ref (a 0)), (1, .int x1)] := hl
  generalize hZ : tz_MQ below (tq_Q (q_SM_local dC dI cI cJ a he dp co li op wd tl lc fo sf lf nf x1) (ga (adC a) s.heap.size)) ([.ref (a 0), .int x1] : List Value).toArray s 0 0 1 6 (ga (adC a) s.heap.size) = Z
  obtain ⟨A, hAe⟩ : ∃ A, A = ga (adC a) s.heap.size := ⟨_, rfl⟩
  rw [← hAe] at hst hAC hA0 hI hZ
  refine sv_start hI (fun H locs hI => ?_)
  obtain ⟨⟨o1, o2⟩, ⟨o3, o4⟩, ⟨o5, o6⟩, ⟨o7, o8⟩, ⟨o9, o10⟩, ⟨o11, o12⟩, ⟨o13, o14⟩, ⟨o15, o16⟩, ⟨o17, o18⟩, o19, -, -⟩ := id hok
  have gx1 := sn_rng x1
  have j10 : ∀ (H : Heap) (locs : List Loc) (ls : Array Slot), sI (dC, dI) vcl cI cJ (gsC a he dp co li op wd tl lc fo sf lf nf) A s.heap H locs → okC he dp co li op wd tl lc fo sf lf nf → lv_has ls 2 [(0, .ref (a 0)), (1, .int x1)] → W p l e (headSpec tw_tbl rm_SM_local).room s m ([.ref (a 0), .int x1] : List Value).toArray below meth c H locs 0 0 Z (F0 m 10 ls []) := by
    intro H locs ls hI hok hl
    obtain ⟨⟨o20, o21⟩, ⟨o22, o23⟩, ⟨o24, o25⟩, ⟨o26, o27⟩, ⟨o28, o29⟩, ⟨o30, o31⟩, ⟨o32, o33⟩, ⟨o34, o35⟩, ⟨o36, o37⟩, o38, -, -⟩ := id hok
    refine W.widen (k := 0) (n := 0) (Nat.le_of_ble_eq_true rfl) (Nat.le_of_ble_eq_true rfl) ?_
    subst hZ
    exact tz_thrown (tth_SM_IndexOutOfBoundsException hx hb hfl hown hts (fun U hU hW => (hst _ _ hI.2 U hU hW).1) (by rw [hml]; exact hl.1) d_SM_local_10 d_SM_local_13 d_SM_local_14 d_SM_local_17 (tx_noH B (hts _ mw_1051) _) (Nat.le_of_ble_eq_true rfl) (Nat.le_of_ble_eq_true rfl) (Nat.le_of_ble_eq_true rfl) (Nat.le_of_ble_eq_true rfl) (fun t ce hW hz hk hce hcl hvm => ⟨⟨⟨fun v9 hv9 => (by cases hv9), fun x9 hx9 => by cases hx9; exact (⟨⟨ce, hce, hcl, hvm⟩, hok, sh_kept hI.1 hk⟩)⟩, ta_thrown hI.2 hz hk⟩, _, rfl⟩) hI.2.2.2 hlocks)
  refine lv_iload_n hx hb d_SM_local_0 rfl (lv_at hl 1 rfl) ?_
  refine sn_if_lt (tgt := 10) hx hb d_SM_local_1 (by decide) (fun b39 => ?_) (fun b39 => ?_)
  · exact j10 _ _ _  hI hok (lv_sub hl [0, 1] rfl)
  · refine lv_iload_n hx hb d_SM_local_4 rfl (lv_at hl 1 rfl) ?_
    refine sn_bipush hx hb d_SM_local_5 (by decide) (fun z40 hz40 => ?_)
    refine sn_icmp_le (tgt := 18) hx hb d_SM_local_7 (by decide) (fun b41 => ?_) (fun b41 => ?_)
    · refine lv_iload_n hx hb d_SM_local_18 rfl (lv_at hl 1 rfl) ?_
      refine sn_if_ne (tgt := 30) hx hb d_SM_local_19 (by decide) (fun b42 => ?_) (fun b42 => ?_)
      · refine lv_iload_n hx hb d_SM_local_30 rfl (lv_at hl 1 rfl) ?_
        refine lv_aload_n hx hb d_SM_local_31 rfl (lv_at hl 0 rfl) ?_
        refine sv_getr (C := "StoryMachine") (T := T_SM) (N := 5) hx hb hts in_SM hown hK hI 0 kC_0 rfl 2 (by decide) (hts _ mw_312) rfl d_SM_local_32 ?_
        refine tz_call (A1 := ga (adC a) H.size) (tz_runV (C := "StoryMachine$Routines") (As := []) (rest := [.int x1]) ⟨hx, hb, hml, hown, hts⟩ (c_Ro_localCount l hfl dC dI cI cJ a H.size he dp co li op wd tl lc fo sf lf nf  hok) (tx_cb (n := 0) hts rfl rfl ⟨Nat.le_of_ble_eq_true rfl, Nat.le_of_ble_eq_true rfl⟩ (tx_code.of (hts _ mw_1055)) (hts _ mw_4) (by decide +kernel) (hts _ mw_1052)) (hts _ mw_1053) (hts _ mw_1054) ⟨tz_blind, sv_recv (q0 := 3) hts in_Ro hK hI kC_3 rfl, fun U hU hW => ⟨rfl, by rw [hU], by rw [hU]; exact hI.1, va_K.moved hW.alike hK, hst _ _ hI.2 U hU hW⟩⟩ rfl rfl hl.1 rfl (lv_room (Nat.le_of_ble_eq_true rfl)) d_SM_local_35 ⟨Nat.le_of_ble_eq_true rfl, Nat.le_of_ble_eq_true rfl⟩) hI.2 (fun q _ h => ga_sub hAC hA0 hI.2 q h) (ga_sub hAC hA0 hI.2) (fun v t H1 locs1 ht hWt hpost _ _ hS => ?_) (fun x t H1 locs1 ht hWt hpost _ _ hS => (hpost.2 x rfl).elim)
        rcases hpost.1 _ rfl with ⟨z43, hv, c44, c44_0, c44_1, c44_2, hI1⟩
        cases hv
        have hI : sI (dC, dI) vcl cI cJ (gsC a he dp co li op wd tl lc fo sf lf nf) A s.heap H1 locs1 := ⟨by rw [← ht]; exact hI1, hS⟩
        clear hpost hI1 hS ht hWt
        revert hI; generalize H1 = H; generalize locs1 = locs; intro hI
        refine sn_icmp_gt (tgt := 52) hx hb d_SM_local_38 (by decide) (fun b45 => ?_) (fun b45 => ?_)
        · refine sn_iconst hx hb d_SM_local_52 (by decide) (fun z46 hz46 => ?_)
          subst hZ
          exact tz_ret (W.iret (v := z46) hx hb hr (fun t ht hW => ⟨⟨fun v9 hv9 => by cases hv9; exact (⟨z46, rfl, c44, by omega, by omega, by omega, by omega, by rw [ht]; exact hI.1⟩), fun x9 hx9 => (by cases hx9)⟩, hI.2.F ht⟩) hI.2.2.2 d_SM_local_53)
        · refine lv_aload_n hx hb d_SM_local_41 rfl (lv_at hl 0 rfl) ?_
          refine sv_getr (C := "StoryMachine") (T := T_SM) (N := 5) hx hb hts in_SM hown hK hI 0 kC_0 rfl 2 (by decide) (hts _ mw_312) rfl d_SM_local_42 ?_
          refine lv_iload_n hx hb d_SM_local_45 rfl (lv_at hl 1 rfl) ?_
          refine tz_call (A1 := ga (adC a) H.size) (tz_runV (C := "StoryMachine$Routines") (As := [.int x1]) (rest := []) ⟨hx, hb, hml, hown, hts⟩ (c_Ro_localValuex l hfl dC dI cI cJ a H.size he dp co li op wd tl lc fo sf lf nf x1 c44 (by omega) (by omega) (by omega)) (tx_cb (n := 1) hts rfl rfl ⟨Nat.le_of_ble_eq_true rfl, Nat.le_of_ble_eq_true rfl⟩ (tx_code.of (hts _ mw_553)) (hts _ mw_4) (by decide +kernel) (hts _ mw_1056)) (hts _ mw_551) (hts _ mw_552) ⟨tz_blind, sv_recv (q0 := 3) hts in_Ro hK hI kC_3 rfl, fun U hU hW => ⟨rfl, by rw [hU], by rw [hU]; exact hI.1, va_K.moved hW.alike hK, hst _ _ hI.2 U hU hW⟩⟩ rfl rfl hl.1 rfl (lv_room (Nat.le_of_ble_eq_true rfl)) d_SM_local_46 ⟨Nat.le_of_ble_eq_true rfl, Nat.le_of_ble_eq_true rfl⟩) hI.2 (fun q _ h => ga_sub hAC hA0 hI.2 q h) (ga_sub hAC hA0 hI.2) (fun v t H1 locs1 ht hWt hpost _ _ hS => ?_) (fun x t H1 locs1 ht hWt hpost _ _ hS => (hpost.2 x rfl).elim)
          rcases hpost.1 _ rfl with ⟨z47, hv, c48, c48_0, c48_1, hI1⟩
          cases hv
          have hI : sI (dC, dI) vcl cI cJ (gsC a he dp co li op wd tl lc fo sf lf nf) A s.heap H1 locs1 := ⟨by rw [← ht]; exact hI1, hS⟩
          clear hpost hI1 hS ht hWt
          revert hI; generalize H1 = H; generalize locs1 = locs; intro hI
          refine lv_goto (tgt := 53) hx hb d_SM_local_49 (by decide) ?_
          subst hZ
          exact tz_ret (W.iret (v := z47) hx hb hr (fun t ht hW => ⟨⟨fun v9 hv9 => by cases hv9; exact (⟨z47, rfl, c48, by omega, by omega, by omega, by omega, by rw [ht]; exact hI.1⟩), fun x9 hx9 => (by cases hx9)⟩, hI.2.F ht⟩) hI.2.2.2 d_SM_local_53)
      · refine lv_aload_n hx hb d_SM_local_22 rfl (lv_at hl 0 rfl) ?_
        refine sv_getr (C := "StoryMachine") (T := T_SM) (N := 5) hx hb hts in_SM hown hK hI 0 kC_0 rfl 2 (by decide) (hts _ mw_312) rfl d_SM_local_23 ?_
        refine tz_call (A1 := ga (adC a) H.size) (tz_runV (C := "StoryMachine$Routines") (As := []) (rest := []) ⟨hx, hb, hml, hown, hts⟩ (c_Ro_localCount l hfl dC dI cI cJ a H.size he dp co li op wd tl lc fo sf lf nf  hok) (tx_cb (n := 0) hts rfl rfl ⟨Nat.le_of_ble_eq_true rfl, Nat.le_of_ble_eq_true rfl⟩ (tx_code.of (hts _ mw_1055)) (hts _ mw_4) (by decide +kernel) (hts _ mw_1052)) (hts _ mw_1053) (hts _ mw_1054) ⟨tz_blind, sv_recv (q0 := 3) hts in_Ro hK hI kC_3 rfl, fun U hU hW => ⟨rfl, by rw [hU], by rw [hU]; exact hI.1, va_K.moved hW.alike hK, hst _ _ hI.2 U hU hW⟩⟩ rfl rfl hl.1 rfl (lv_room (Nat.le_of_ble_eq_true rfl)) d_SM_local_26 ⟨Nat.le_of_ble_eq_true rfl, Nat.le_of_ble_eq_true rfl⟩) hI.2 (fun q _ h => ga_sub hAC hA0 hI.2 q h) (ga_sub hAC hA0 hI.2) (fun v t H1 locs1 ht hWt hpost _ _ hS => ?_) (fun x t H1 locs1 ht hWt hpost _ _ hS => (hpost.2 x rfl).elim)
        rcases hpost.1 _ rfl with ⟨z49, hv, c50, c50_0, c50_1, c50_2, hI1⟩
        cases hv
        have hI : sI (dC, dI) vcl cI cJ (gsC a he dp co li op wd tl lc fo sf lf nf) A s.heap H1 locs1 := ⟨by rw [← ht]; exact hI1, hS⟩
        clear hpost hI1 hS ht hWt
        revert hI; generalize H1 = H; generalize locs1 = locs; intro hI
        subst hZ
        exact tz_ret (W.iret (v := z49) hx hb hr (fun t ht hW => ⟨⟨fun v9 hv9 => by cases hv9; exact (⟨z49, rfl, c50, by omega, by omega, by omega, by omega, by rw [ht]; exact hI.1⟩), fun x9 hx9 => (by cases hx9)⟩, hI.2.F ht⟩) hI.2.2.2 d_SM_local_29)
    · exact j10 _ _ _  hI hok (lv_sub hl [0, 1] rfl)
abbrev q_SM_routines (dC : Nat → ClassId) (dI : Nat → Nat → Nat) (cI cJ : ClassId) (a : Nat → Nat) (he dp co li op wd tl lc fo : Int) (sf lf nf : Nat → Int32) : Outcome → State → Prop := fun o t => (∀ v, o = .returned v → ((∃ (z : Int32), v = some (.int z) ∧ okC he dp co li op wd tl lc fo sf lf nf ∧ (0 ≤ z.toInt) ∧ (z.toInt ≤ 10) ∧ sh_I (dC, dI) vcl cI cJ (gsC a he dp co li op wd tl lc fo sf lf nf) t.heap))) ∧ (∀ x, o = .threw x → (False))
def rm_SM_routines : Room := { frames := 0, cells := 0, slots := 0, locals := 0 }
set_option maxHeartbeats 4000000 in
set_option maxRecDepth 100000 in
theorem c_SM_routines (l : Launch) (hfl : l.flags = pinnedFlags ++ [noTraceFlag]) (dC : Nat → ClassId) (dI : Nat → Nat → Nat) (cI cJ : ClassId) (a : Nat → Nat) (sz : Nat) (he dp co li op wd tl lc fo : Int) (sf lf nf : Nat → Int32) (hok : okC he dp co li op wd tl lc fo sf lf nf) : tz_Met l ⟨"StoryMachine", "routines", "()I"⟩ tw_tbl rm_SM_routines (tzP (dC, dI) vcl cI cJ (gsC a he dp co li op wd tl lc fo sf lf nf) a (adC a) [.ref (a 0)] sz) (tq_Q (q_SM_routines dC dI cI cJ a he dp co li op wd tl lc fo sf lf nf) (ga (adC a) sz)) 0 0 0 0 (ga (adC a) sz) := by
  refine tz_ofW (cc := prog_1_method_13_code) (maxL := 1) (ret := (some .int)) (by decide) (tx_isM mw_345) ?_
  intro p e s m args below meth c s₁ B hml hv
  obtain ⟨rfl, hsz, hI0, hK, hst0⟩ := hv
  have hx := B.exec
  have hb := B.bytes
  have hr := B.returns
  have hts := atoms_spec (ws := tw_tbl) B.pre
  have hown : s.vm.findClass "StoryMachine" = some m.cls := findClass_of_methodNamed B.named
  have hlocks := B.notSynchronized
  subst hsz
  have hst := fun (H : Heap) (locs : List Loc) (hS : va_S (ga (adC a) s.heap.size) s.heap H locs) (U : State) (hU : U.heap = H) (hW : s.WarmedH U.vm) => zS_all adC_map hI0 hst0 hS hU hW
  have hAC : ∀ q ∈ adC a, ga (adC a) s.heap.size q := fun q h => Or.inl h
  have hA0 : ∀ q, s.heap.size ≤ q → ga (adC a) s.heap.size q := fun q h => Or.inr h
  have hI : sI (dC, dI) vcl cI cJ (gsC a he dp co li op wd tl lc fo sf lf nf) (ga (adC a) s.heap.size) s.heap s.heap [] := ⟨hI0, va_S.rf⟩
  clear hI0 hst0
  have hl := lv_entry ([.ref (a 0)]) (n := 1) (Nat.le_of_ble_eq_true rfl)
  rw [lg_entry_eq]
  generalize (lg_sl ([.ref (a 0)]) ++ List.replicate (1 - (lg_sl ([.ref (a 0)])).length) Slot.unset).toArray = ls at hl ⊢
  have hl : lv_has ls 1 [(0, .ref (a 0))] := hl
  generalize hZ : tz_MQ below (tq_Q (q_SM_routines dC dI cI cJ a he dp co li op wd tl lc fo sf lf nf) (ga (adC a) s.heap.size)) ([.ref (a 0)] : List Value).toArray s 0 0 0 0 (ga (adC a) s.heap.size) = Z
  obtain ⟨A, hAe⟩ : ∃ A, A = ga (adC a) s.heap.size := ⟨_, rfl⟩
  rw [← hAe] at hst hAC hA0 hI hZ
  refine sv_start hI (fun H locs hI => ?_)
  obtain ⟨⟨o1, o2⟩, ⟨o3, o4⟩, ⟨o5, o6⟩, ⟨o7, o8⟩, ⟨o9, o10⟩, ⟨o11, o12⟩, ⟨o13, o14⟩, ⟨o15, o16⟩, ⟨o17, o18⟩, o19, -, -⟩ := id hok
  refine lv_aload_n hx hb d_SM_routines_0 rfl (lv_at hl 0 rfl) ?_
  refine sv_getr (C := "StoryMachine") (T := T_SM) (N := 5) hx hb hts in_SM hown hK hI 0 kC_0 rfl 2 (by decide) (hts _ mw_312) rfl d_SM_routines_1 ?_
  refine sv_gete (C := "StoryMachine$Routines") (T := T_Ro) (N := 8) hx hb hts in_Ro hown hK hI 3 kC_3 rfl 2 (by decide) (hts _ mw_85) rfl d_SM_routines_4 (fun z20 hz20 => ?_)
  subst hZ
  exact tz_ret (W.iret (v := z20) hx hb hr (fun t ht hW => ⟨⟨fun v9 hv9 => by cases hv9; exact (⟨z20, rfl, hok, by omega, by omega, by rw [ht]; exact hI.1⟩), fun x9 hx9 => (by cases hx9)⟩, hI.2.F ht⟩) hI.2.2.2 d_SM_routines_7)
abbrev q_Mo_isFew (dC : Nat → ClassId) (dI : Nat → Nat → Nat) (cI cJ : ClassId) (a : Nat → Nat) (th tr dp zi co sh lt ts : Int) (mf : Nat → Int32) (x0 : Int32) : Outcome → State → Prop := fun o t => (∀ v, o = .returned v → ((∃ (z : Int32), v = some (.int z) ∧ okM th tr dp zi co sh lt ts mf ∧ (0 ≤ z.toInt) ∧ (z.toInt ≤ 0) ∧ sh_I (dC, dI) vcl cI cJ (gsM a th tr dp zi co sh lt ts mf) t.heap) ∨ (∃ (z : Int32), v = some (.int z) ∧ okM th tr dp zi co sh lt ts mf ∧ (1 ≤ z.toInt) ∧ (z.toInt ≤ 1) ∧ (1 ≤ x0.toInt) ∧ (x0.toInt ≤ 8) ∧ sh_I (dC, dI) vcl cI cJ (gsM a th tr dp zi co sh lt ts mf) t.heap))) ∧ (∀ x, o = .threw x → (False))
def rm_Mo_isFew : Room := { frames := 0, cells := 0, slots := 0, locals := 0 }
set_option maxHeartbeats 4000000 in
set_option maxRecDepth 100000 in
theorem c_Mo_isFew (l : Launch) (hfl : l.flags = pinnedFlags ++ [noTraceFlag]) (dC : Nat → ClassId) (dI : Nat → Nat → Nat) (cI cJ : ClassId) (a : Nat → Nat) (sz : Nat) (th tr dp zi co sh lt ts : Int) (mf : Nat → Int32) (x0 : Int32) (hok : okM th tr dp zi co sh lt ts mf) : tz_Met l ⟨"StoryMachineModel", "isFew", "(I)Z"⟩ tw_tbl rm_Mo_isFew (tzP (dC, dI) vcl cI cJ (gsM a th tr dp zi co sh lt ts mf) a (adM a) [.int x0] sz) (tq_Q (q_Mo_isFew dC dI cI cJ a th tr dp zi co sh lt ts mf x0) (ga (adM a) sz)) 0 0 0 0 (ga (adM a) sz) := by
  refine tz_ofW (cc := prog_13_method_73_code) (maxL := 1) (ret := (some .boolean)) (by decide) (tx_isM mw_1503) ?_
  intro p e s m args below meth c s₁ B hml hv
  obtain ⟨rfl, hsz, hI0, hK, hst0⟩ := hv
  have hx := B.exec
  have hb := B.bytes
  have hr := B.returns
  have hts := atoms_spec (ws := tw_tbl) B.pre
  have hown : s.vm.findClass "StoryMachineModel" = some m.cls := findClass_of_methodNamed B.named
  have hlocks := B.notSynchronized
  subst hsz
  have hst := fun (H : Heap) (locs : List Loc) (hS : va_S (ga (adM a) s.heap.size) s.heap H locs) (U : State) (hU : U.heap = H) (hW : s.WarmedH U.vm) => zS_all adM_map hI0 hst0 hS hU hW
  have hAC : ∀ q ∈ adM a, ga (adM a) s.heap.size q := fun q h => Or.inl h
  have hA0 : ∀ q, s.heap.size ≤ q → ga (adM a) s.heap.size q := fun q h => Or.inr h
  have hI : sI (dC, dI) vcl cI cJ (gsM a th tr dp zi co sh lt ts mf) (ga (adM a) s.heap.size) s.heap s.heap [] := ⟨hI0, va_S.rf⟩
  clear hI0 hst0
  have hl := lv_entry ([.int x0]) (n := 1) (Nat.le_of_ble_eq_true rfl)
  rw [lg_entry_eq]
  generalize (lg_sl ([.int x0]) ++ List.replicate (1 - (lg_sl ([.int x0])).length) Slot.unset).toArray = ls at hl ⊢
  have hl : lv_has ls 1 [(0, .int x0)] := hl
  generalize hZ : tz_MQ below (tq_Q (q_Mo_isFew dC dI cI cJ a th tr dp zi co sh lt ts mf x0) (ga (adM a) s.heap.size)) ([.int x0] : List Value).toArray s 0 0 0 0 (ga (adM a) s.heap.size) = Z
  obtain ⟨A, hAe⟩ : ∃ A, A = ga (adM a) s.heap.size := ⟨_, rfl⟩
  rw [← hAe] at hst hAC hA0 hI hZ
  refine sv_start hI (fun H locs hI => ?_)
  obtain ⟨⟨o1, o2⟩, ⟨o3, o4⟩, ⟨o5, o6⟩, ⟨o7, o8⟩, ⟨o9, o10⟩, ⟨o11, o12⟩, ⟨o13, o14⟩, ⟨o15, o16⟩, -⟩ := id hok
  have gx0 := sn_rng x0
  refine lv_iload_n hx hb d_Mo_isFew_0 rfl (lv_at hl 0 rfl) ?_
  refine sn_iconst hx hb d_Mo_isFew_1 (by decide) (fun z17 hz17 => ?_)
  refine sn_icmp_lt (tgt := 15) hx hb d_Mo_isFew_2 (by decide) (fun b18 => ?_) (fun b18 => ?_)
  · refine sn_iconst hx hb d_Mo_isFew_15 (by decide) (fun z19 hz19 => ?_)
    subst hZ
    exact tz_ret (W.zret (v := z19) hx hb hr (sn_bool (by omega) (by omega)).1 (fun t ht hW => ⟨⟨fun v9 hv9 => by cases hv9; exact (Or.inl ⟨z19, rfl, hok, by omega, by omega, by rw [ht]; exact hI.1⟩), fun x9 hx9 => (by cases hx9)⟩, hI.2.F ht⟩) hI.2.2.2 d_Mo_isFew_16)
  · refine lv_iload_n hx hb d_Mo_isFew_5 rfl (lv_at hl 0 rfl) ?_
    refine sn_bipush hx hb d_Mo_isFew_6 (by decide) (fun z20 hz20 => ?_)
    refine sn_icmp_gt (tgt := 15) hx hb d_Mo_isFew_8 (by decide) (fun b21 => ?_) (fun b21 => ?_)
    · refine sn_iconst hx hb d_Mo_isFew_15 (by decide) (fun z22 hz22 => ?_)
      subst hZ
      exact tz_ret (W.zret (v := z22) hx hb hr (sn_bool (by omega) (by omega)).1 (fun t ht hW => ⟨⟨fun v9 hv9 => by cases hv9; exact (Or.inl ⟨z22, rfl, hok, by omega, by omega, by rw [ht]; exact hI.1⟩), fun x9 hx9 => (by cases hx9)⟩, hI.2.F ht⟩) hI.2.2.2 d_Mo_isFew_16)
    · refine sn_iconst hx hb d_Mo_isFew_11 (by decide) (fun z23 hz23 => ?_)
      refine lv_goto (tgt := 16) hx hb d_Mo_isFew_12 (by decide) ?_
      subst hZ
      exact tz_ret (W.zret (v := z23) hx hb hr (sn_bool (by omega) (by omega)).1 (fun t ht hW => ⟨⟨fun v9 hv9 => by cases hv9; exact (Or.inr (⟨z23, rfl, hok, by omega, by omega, by omega, by omega, by rw [ht]; exact hI.1⟩)), fun x9 hx9 => (by cases hx9)⟩, hI.2.F ht⟩) hI.2.2.2 d_Mo_isFew_16)
abbrev q_Mo_poke (dC : Nat → ClassId) (dI : Nat → Nat → Nat) (cI cJ : ClassId) (a : Nat → Nat) (th tr dp zi co sh lt ts : Int) (mf : Nat → Int32) (x1 : Int32) (y2 : Int64) (x4 : Int32) : Outcome → State → Prop := fun o t => (∀ v, o = .returned v → ((∃ (th_ : Int), v = none ∧ okM th_ tr dp zi co sh lt ts mf ∧ (1 ≤ th_) ∧ (th_ ≤ 1) ∧ (x4.toInt < 1 ∨ 8 < x4.toInt ∨ x1.toInt < 0 ∨ 512 < x1.toInt + x4.toInt) ∧ sh_I (dC, dI) vcl cI cJ (gsM a th_ tr dp zi co sh lt ts mf) t.heap) ∨ (∃ (th_ : Int) (mf_ : Nat → Int32), v = none ∧ okM th_ tr dp zi co sh lt ts mf_ ∧ (0 ≤ x1.toInt) ∧ (x1.toInt ≤ 511) ∧ (1 ≤ x4.toInt) ∧ (x4.toInt ≤ 8) ∧ (th_ ≤ 0) ∧ (1 ≤ x4.toInt) ∧ (x4.toInt ≤ 8) ∧ (0 ≤ x1.toInt) ∧ (x1.toInt + x4.toInt ≤ 512) ∧ sh_I (dC, dI) vcl cI cJ (gsM a th_ tr dp zi co sh lt ts mf_) t.heap))) ∧ (∀ x, o = .threw x → (False))
def rm_Mo_poke : Room := { frames := 1, cells := 0, slots := 0, locals := 20 }
set_option maxHeartbeats 4000000 in
set_option maxRecDepth 100000 in
theorem c_Mo_poke (l : Launch) (hfl : l.flags = pinnedFlags ++ [noTraceFlag]) (dC : Nat → ClassId) (dI : Nat → Nat → Nat) (cI cJ : ClassId) (a : Nat → Nat) (sz : Nat) (th tr dp zi co sh lt ts : Int) (mf : Nat → Int32) (x1 : Int32) (y2 : Int64) (x4 : Int32) (hok : okM th tr dp zi co sh lt ts mf) : tz_Met l ⟨"StoryMachineModel", "poke", "(IJI)V"⟩ tw_tbl rm_Mo_poke (tzP (dC, dI) vcl cI cJ (gsM a th tr dp zi co sh lt ts mf) a (adM a) [.ref (a 0), .int x1, .long y2, .int x4] sz) (tq_Q (q_Mo_poke dC dI cI cJ a th tr dp zi co sh lt ts mf x1 y2 x4) (ga (adM a) sz)) 0 0 0 0 (ga (adM a) sz) := by
  refine tz_ofW (cc := prog_13_method_74_code) (maxL := 6) (ret := none) (by decide) (tx_isM mw_1500) ?_
  intro p e s m args below meth c s₁ B hml hv
  obtain ⟨rfl, hsz, hI0, hK, hst0⟩ := hv
  have hx := B.exec
  have hb := B.bytes
  have hr := B.returns
  have hts := atoms_spec (ws := tw_tbl) B.pre
  have hown : s.vm.findClass "StoryMachineModel" = some m.cls := findClass_of_methodNamed B.named
  have hlocks := B.notSynchronized
  subst hsz
  have hst := fun (H : Heap) (locs : List Loc) (hS : va_S (ga (adM a) s.heap.size) s.heap H locs) (U : State) (hU : U.heap = H) (hW : s.WarmedH U.vm) => zS_all adM_map hI0 hst0 hS hU hW
  have hAC : ∀ q ∈ adM a, ga (adM a) s.heap.size q := fun q h => Or.inl h
  have hA0 : ∀ q, s.heap.size ≤ q → ga (adM a) s.heap.size q := fun q h => Or.inr h
  have hI : sI (dC, dI) vcl cI cJ (gsM a th tr dp zi co sh lt ts mf) (ga (adM a) s.heap.size) s.heap s.heap [] := ⟨hI0, va_S.rf⟩
  clear hI0 hst0
  have hl := lv_entry ([.ref (a 0), .int x1, .long y2, .int x4]) (n := 6) (Nat.le_of_ble_eq_true rfl)
  rw [lg_entry_eq]
  generalize (lg_sl ([.ref (a 0), .int x1, .long y2, .int x4]) ++ List.replicate (6 - (lg_sl ([.ref (a 0), .int x1, .long y2, .int x4])).length) Slot.unset).toArray = ls at hl ⊢
  have hl : lv_has ls 6 [(0, .ref (a 0)), (1, .int x1), (2, .long y2), (4, .int x4)] := hl
  generalize hZ : tz_MQ below (tq_Q (q_Mo_poke dC dI cI cJ a th tr dp zi co sh lt ts mf x1 y2 x4) (ga (adM a) s.heap.size)) ([.ref (a 0), .int x1, .long y2, .int x4] : List Value).toArray s 0 0 0 0 (ga (adM a) s.heap.size) = Z
  obtain ⟨A, hAe⟩ : ∃ A, A = ga (adM a) s.heap.size := ⟨_, rfl⟩
  rw [← hAe] at hst hAC hA0 hI hZ
  refine sv_start hI (fun H locs hI => ?_)
  obtain ⟨⟨o1, o2⟩, ⟨o3, o4⟩, ⟨o5, o6⟩, ⟨o7, o8⟩, ⟨o9, o10⟩, ⟨o11, o12⟩, ⟨o13, o14⟩, ⟨o15, o16⟩, -⟩ := id hok
  have gx1 := sn_rng x1
  have gx4 := sn_rng x4
  have j34p : ∀ (H : Heap) (locs : List Loc) (ls : Array Slot) (v34p_5 : Int32) (v34p_2 : Int64) (t34p_th : Int), sI (dC, dI) vcl cI cJ (gsM a t34p_th tr dp zi co sh lt ts mf) A s.heap H locs → okM t34p_th tr dp zi co sh lt ts mf → 0 ≤ v34p_5.toInt → v34p_5.toInt ≤ 0 → 1 ≤ t34p_th → t34p_th ≤ 1 → x4.toInt < 1 ∨ 8 < x4.toInt ∨ x1.toInt < 0 ∨ 512 < x1.toInt + x4.toInt → lv_has ls 6 [(0, .ref (a 0)), (1, .int x1), (2, .long v34p_2), (4, .int x4), (5, .int v34p_5)] → W p l e (headSpec tw_tbl rm_Mo_poke).room s m ([.ref (a 0), .int x1, .long y2, .int x4] : List Value).toArray below meth c H locs 0 0 Z (F0 m 34 ls []) := by
    intro H locs ls v34p_5 v34p_2 t34p_th hI hok g34_0 g34_1 g34_2 g34_3 g34_4 hl
    obtain ⟨⟨o17, o18⟩, ⟨o19, o20⟩, ⟨o21, o22⟩, ⟨o23, o24⟩, ⟨o25, o26⟩, ⟨o27, o28⟩, ⟨o29, o30⟩, ⟨o31, o32⟩, -⟩ := id hok
    refine lv_iload hx hb d_Mo_poke_34 (lv_at hl 4 rfl) ?_
    refine lv_iload hx hb d_Mo_poke_36 (lv_at hl 3 rfl) ?_
    refine sn_icmp_ge (tgt := 80) hx hb d_Mo_poke_38 (by decide) (fun b33 => ?_) (fun b33 => ?_)
    · subst hZ
      exact tz_ret (W.vret hx hb hr (fun t ht hW => ⟨⟨fun v9 hv9 => by cases hv9; exact (Or.inl ⟨t34p_th, rfl, hok, by omega, by omega, by omega, by rw [ht]; exact hI.1⟩), fun x9 hx9 => (by cases hx9)⟩, hI.2.F ht⟩) hI.2.2.2 d_Mo_poke_80)
    · refine lv_aload_n hx hb d_Mo_poke_41 rfl (lv_at hl 0 rfl) ?_
      refine sv_gete (C := "StoryMachineModel") (T := T_Mo) (N := 51) hx hb hts in_Mo hown hK hI 0 kM_0 rfl 0 (by decide) (hts _ mw_1063) rfl d_Mo_poke_42 (fun z34 hz34 => ?_)
      refine sn_if_ne (tgt := 80) hx hb d_Mo_poke_45 (by decide) (fun b35 => ?_) (fun b35 => ?_)
      · subst hZ
        exact tz_ret (W.vret hx hb hr (fun t ht hW => ⟨⟨fun v9 hv9 => by cases hv9; exact (Or.inl ⟨t34p_th, rfl, hok, by omega, by omega, by omega, by rw [ht]; exact hI.1⟩), fun x9 hx9 => (by cases hx9)⟩, hI.2.F ht⟩) hI.2.2.2 d_Mo_poke_80)
      · omega
  have j34z : ∀ (n : Nat) (H : Heap) (locs : List Loc) (ls : Array Slot) (v34z_5 : Int32) (v34z_2 : Int64) (t34z_th : Int) (t34z_mf : Nat → Int32), sI (dC, dI) vcl cI cJ (gsM a t34z_th tr dp zi co sh lt ts t34z_mf) A s.heap H locs → okM t34z_th tr dp zi co sh lt ts t34z_mf → 0 ≤ v34z_5.toInt → v34z_5.toInt ≤ 8 → 0 ≤ t34z_th → t34z_th ≤ 0 → 0 ≤ x1.toInt → x1.toInt ≤ 511 → 1 ≤ x4.toInt → x4.toInt ≤ 8 → 1 ≤ x4.toInt → x4.toInt ≤ 8 → 0 ≤ x1.toInt → x1.toInt + x4.toInt ≤ 512 → lv_has ls 6 [(0, .ref (a 0)), (1, .int x1), (2, .long v34z_2), (4, .int x4), (5, .int v34z_5)] → 8 - v34z_5.toInt < (n : Int) → W p l e (headSpec tw_tbl rm_Mo_poke).room s m ([.ref (a 0), .int x1, .long y2, .int x4] : List Value).toArray below meth c H locs 0 0 Z (F0 m 34 ls []) := by
    intro n
    induction n with
    | zero => intro H locs ls v34z_5 v34z_2 t34z_th t34z_mf hI hok g34_0 g34_1 g34_2 g34_3 g34_4 g34_5 g34_6 g34_7 g34_8 g34_9 g34_10 g34_11 hl hme; exfalso; obtain ⟨⟨o36, o37⟩, ⟨o38, o39⟩, ⟨o40, o41⟩, ⟨o42, o43⟩, ⟨o44, o45⟩, ⟨o46, o47⟩, ⟨o48, o49⟩, ⟨o50, o51⟩, -⟩ := id hok; omega
    | succ n ih =>
      intro H locs ls v34z_5 v34z_2 t34z_th t34z_mf hI hok g34_0 g34_1 g34_2 g34_3 g34_4 g34_5 g34_6 g34_7 g34_8 g34_9 g34_10 g34_11 hl hme
      obtain ⟨⟨o52, o53⟩, ⟨o54, o55⟩, ⟨o56, o57⟩, ⟨o58, o59⟩, ⟨o60, o61⟩, ⟨o62, o63⟩, ⟨o64, o65⟩, ⟨o66, o67⟩, -⟩ := id hok
      refine lv_iload hx hb d_Mo_poke_34 (lv_at hl 4 rfl) ?_
      refine lv_iload hx hb d_Mo_poke_36 (lv_at hl 3 rfl) ?_
      refine sn_icmp_ge (tgt := 80) hx hb d_Mo_poke_38 (by decide) (fun b68 => ?_) (fun b68 => ?_)
      · subst hZ
        exact tz_ret (W.vret hx hb hr (fun t ht hW => ⟨⟨fun v9 hv9 => by cases hv9; exact (Or.inr (⟨t34z_th, t34z_mf, rfl, hok, by omega, by omega, by omega, by omega, by omega, by omega, by omega, by omega, by omega, by rw [ht]; exact hI.1⟩)), fun x9 hx9 => (by cases hx9)⟩, hI.2.F ht⟩) hI.2.2.2 d_Mo_poke_80)
      · refine lv_aload_n hx hb d_Mo_poke_41 rfl (lv_at hl 0 rfl) ?_
        refine sv_gete (C := "StoryMachineModel") (T := T_Mo) (N := 51) hx hb hts in_Mo hown hK hI 0 kM_0 rfl 0 (by decide) (hts _ mw_1063) rfl d_Mo_poke_42 (fun z69 hz69 => ?_)
        refine sn_if_ne (tgt := 80) hx hb d_Mo_poke_45 (by decide) (fun b70 => ?_) (fun b70 => ?_)
        · omega
        · refine lv_aload_n hx hb d_Mo_poke_48 rfl (lv_at hl 0 rfl) ?_
          refine sv_getr (C := "StoryMachineModel") (T := T_Mo) (N := 51) hx hb hts in_Mo hown hK hI 0 kM_0 rfl 1 (by decide) (hts _ mw_1064) rfl d_Mo_poke_49 ?_
          refine lv_iload_n hx hb d_Mo_poke_52 rfl (lv_at hl 1 rfl) ?_
          refine lv_iload hx hb d_Mo_poke_53 (lv_at hl 4 rfl) ?_
          refine sn_iadd hx hb d_Mo_poke_55 (by omega) (by omega) (fun z71 hz71 => ?_)
          refine lv_lload_n hx hb d_Mo_poke_56 rfl (lv_at hl 2 rfl) ?_
          refine sn_bipush hx hb d_Mo_poke_57 (by decide) (fun z72 hz72 => ?_)
          refine lv_iload hx hb d_Mo_poke_59 (lv_at hl 3 rfl) ?_
          refine sn_iconst hx hb d_Mo_poke_61 (by decide) (fun z73 hz73 => ?_)
          refine sn_isub hx hb d_Mo_poke_62 (by omega) (by omega) (fun z74 hz74 => ?_)
          refine lv_iload hx hb d_Mo_poke_63 (lv_at hl 4 rfl) ?_
          refine sn_isub hx hb d_Mo_poke_65 (by omega) (by omega) (fun z75 hz75 => ?_)
          refine sn_imulL (k := 8) hx hb d_Mo_poke_66 (by omega) (by omega) (by omega) (fun z76 hz76 => ?_)
          refine lv_lshr hx hb d_Mo_poke_67 rfl ?_
          refine lv_topl (fun y77 hy77 => ?_)
          refine lv_ldc2 hx hb hown (hts _ mw_1504) d_Mo_poke_68 ?_
          refine lv_topl (fun c255_78 hc255_78 => ?_)
          refine sn_land hx hb d_Mo_poke_71 hc255_78 (fun y79 hy79a hy79b => ?_)
          refine sn_l2i hx hb d_Mo_poke_72 (by omega) (by omega) (fun z80 hz80 => ?_)
          refine sv_iast hx hb hK (sh_in adM_map hAC) hI 1 kM_1 (P' := fun g => g = upd t34z_mf (z71.toNatClampNeg) z80) (by omega) (by omega) (fun g hg => by rw [hg]) pM_1 d_Mo_poke_73 (fun H locs hI => ?_)
          obtain ⟨f81, hf81⟩ : ∃ z : Nat → Int32, z = upd t34z_mf (z71.toNatClampNeg) z80 := ⟨_, rfl⟩
          rw [← hf81] at hI
          have rf81 : rg 0 255 f81 := by rw [hf81]; exact rg_upd hok.2.2.2.2.2.2.2.2 (by omega) (by omega)
          refine sn_iinc (k := 4) hx hb d_Mo_poke_74 hl rfl (by decide) (by decide) (by omega) (by omega) (fun ls z82 hz82 hl => ?_)
          have hl : lv_has ls 6 [(5, .int z82), (0, .ref (a 0)), (1, .int x1), (2, .long v34z_2), (4, .int x4)] := hl
          refine lv_goto (tgt := 34) hx hb d_Mo_poke_77 (by decide) ?_
          have ho83 : okM t34z_th tr dp zi co sh lt ts f81 := ⟨hok.1, hok.2.1, hok.2.2.1, hok.2.2.2.1, hok.2.2.2.2.1, hok.2.2.2.2.2.1, hok.2.2.2.2.2.2.1, hok.2.2.2.2.2.2.2.1, rf81⟩
          exact ih _ _ _ z82 v34z_2 t34z_th f81 hI ho83 (by omega) (by omega) (by omega) (by omega) (by omega) (by omega) (by omega) (by omega) (by omega) (by omega) (by omega) (by omega) (lv_sub hl [1, 2, 3, 4, 0] rfl) (by omega)
  refine lv_aload_n hx hb d_Mo_poke_0 rfl (lv_at hl 0 rfl) ?_
  refine lv_iload hx hb d_Mo_poke_1 (lv_at hl 3 rfl) ?_
  refine tz_call (A1 := ga (adM a) H.size) (tz_runS (As := [.int x4]) (rest := [.ref (a 0)]) ⟨hx, hb, hml, hown, hts⟩ (c_Mo_isFew l hfl dC dI cI cJ a H.size th tr dp zi co sh lt ts mf x4 hok) (tx_cb (n := 1) hts rfl rfl ⟨Nat.le_of_ble_eq_true rfl, Nat.le_of_ble_eq_true rfl⟩ (tx_code.of (hts _ mw_1503)) (hts _ mw_12) (by decide +kernel) (hts _ mw_1501)) (hts _ mw_1502) ⟨tz_blind, fun U hU hW => ⟨rfl, by rw [hU], by rw [hU]; exact hI.1, va_K.moved hW.alike hK, hst _ _ hI.2 U hU hW⟩⟩ rfl rfl hl.1 rfl (lv_room (Nat.le_of_ble_eq_true rfl)) d_Mo_poke_3 ⟨Nat.le_of_ble_eq_true rfl, Nat.le_of_ble_eq_true rfl⟩) hI.2 (fun q _ h => ga_sub hAC hA0 hI.2 q h) (ga_sub hAC hA0 hI.2) (fun v t H1 locs1 ht hWt hpost _ _ hS => ?_) (fun x t H1 locs1 ht hWt hpost _ _ hS => (hpost.2 x rfl).elim)
  rcases hpost.1 _ rfl with ⟨z84, hv, c85, c85_0, c85_1, hI1⟩ | ⟨z86, hv, c87, c87_0, c87_1, c87_2, c87_3, hI1⟩
  · cases hv
    have hI : sI (dC, dI) vcl cI cJ (gsM a th tr dp zi co sh lt ts mf) A s.heap H1 locs1 := ⟨by rw [← ht]; exact hI1, hS⟩
    clear hpost hI1 hS ht hWt
    revert hI; generalize H1 = H; generalize locs1 = locs; intro hI
    refine sn_if_eq (tgt := 23) hx hb d_Mo_poke_6 (by decide) (fun b88 => ?_) (fun b88 => ?_)
    · refine sn_iconst hx hb d_Mo_poke_23 (by decide) (fun z89 hz89 => ?_)
      refine lv_goto (tgt := 28) hx hb d_Mo_poke_24 (by decide) ?_
      refine sv_put (C := "StoryMachineModel") (T := T_Mo) (N := 51) (ty := .int) hx hb hts in_Mo t_Mo tk_Mo nm_Mo hown hK (sh_in adM_map hAC) hI 0 kM_0 rfl 0 (by decide) (hts _ mw_1063) rfl (by decide +kernel) rfl rfl (Nat.le_of_ble_eq_true rfl) (Int.le_refl _) (Int.le_refl _) pM_0_0 d_Mo_poke_28 (fun H locs hI => ?_)
      refine sn_iconst hx hb d_Mo_poke_31 (by decide) (fun z90 hz90 => ?_)
      refine lv_istore (lv' := [(5, .int z90), (0, .ref (a 0)), (1, .int x1), (2, .long y2), (4, .int x4)]) hx hb d_Mo_poke_32 hl (by decide) rfl (fun ls hl => ?_)
      have ho91 : okM z89.toInt tr dp zi co sh lt ts mf := ⟨⟨by omega, by omega⟩, c85.2.1, c85.2.2.1, c85.2.2.2.1, c85.2.2.2.2.1, c85.2.2.2.2.2.1, c85.2.2.2.2.2.2.1, c85.2.2.2.2.2.2.2.1, c85.2.2.2.2.2.2.2.2⟩
      exact j34p _ _ _ z90 y2 z89.toInt hI ho91 (by omega) (by omega) (by omega) (by omega) (by omega) (lv_sub hl [1, 2, 3, 4, 0] rfl)
    · omega
  · cases hv
    have hI : sI (dC, dI) vcl cI cJ (gsM a th tr dp zi co sh lt ts mf) A s.heap H1 locs1 := ⟨by rw [← ht]; exact hI1, hS⟩
    clear hpost hI1 hS ht hWt
    revert hI; generalize H1 = H; generalize locs1 = locs; intro hI
    refine sn_if_eq (tgt := 23) hx hb d_Mo_poke_6 (by decide) (fun b92 => ?_) (fun b92 => ?_)
    · omega
    · refine lv_iload_n hx hb d_Mo_poke_9 rfl (lv_at hl 1 rfl) ?_
      refine sn_if_lt (tgt := 23) hx hb d_Mo_poke_10 (by decide) (fun b93 => ?_) (fun b93 => ?_)
      · refine sn_iconst hx hb d_Mo_poke_23 (by decide) (fun z94 hz94 => ?_)
        refine lv_goto (tgt := 28) hx hb d_Mo_poke_24 (by decide) ?_
        refine sv_put (C := "StoryMachineModel") (T := T_Mo) (N := 51) (ty := .int) hx hb hts in_Mo t_Mo tk_Mo nm_Mo hown hK (sh_in adM_map hAC) hI 0 kM_0 rfl 0 (by decide) (hts _ mw_1063) rfl (by decide +kernel) rfl rfl (Nat.le_of_ble_eq_true rfl) (Int.le_refl _) (Int.le_refl _) pM_0_0 d_Mo_poke_28 (fun H locs hI => ?_)
        refine sn_iconst hx hb d_Mo_poke_31 (by decide) (fun z95 hz95 => ?_)
        refine lv_istore (lv' := [(5, .int z95), (0, .ref (a 0)), (1, .int x1), (2, .long y2), (4, .int x4)]) hx hb d_Mo_poke_32 hl (by decide) rfl (fun ls hl => ?_)
        have ho96 : okM z94.toInt tr dp zi co sh lt ts mf := ⟨⟨by omega, by omega⟩, c87.2.1, c87.2.2.1, c87.2.2.2.1, c87.2.2.2.2.1, c87.2.2.2.2.2.1, c87.2.2.2.2.2.2.1, c87.2.2.2.2.2.2.2.1, c87.2.2.2.2.2.2.2.2⟩
        exact j34p _ _ _ z95 y2 z94.toInt hI ho96 (by omega) (by omega) (by omega) (by omega) (by omega) (lv_sub hl [1, 2, 3, 4, 0] rfl)
      · refine lv_iload_n hx hb d_Mo_poke_13 rfl (lv_at hl 1 rfl) ?_
        refine sn_sipush hx hb d_Mo_poke_14 (by decide) (fun z97 hz97 => ?_)
        refine lv_iload hx hb d_Mo_poke_17 (lv_at hl 3 rfl) ?_
        refine sn_isub hx hb d_Mo_poke_19 (by omega) (by omega) (fun z98 hz98 => ?_)
        refine sn_icmp_le (tgt := 27) hx hb d_Mo_poke_20 (by decide) (fun b99 => ?_) (fun b99 => ?_)
        · refine sn_iconst hx hb d_Mo_poke_27 (by decide) (fun z100 hz100 => ?_)
          refine sv_put (C := "StoryMachineModel") (T := T_Mo) (N := 51) (ty := .int) hx hb hts in_Mo t_Mo tk_Mo nm_Mo hown hK (sh_in adM_map hAC) hI 0 kM_0 rfl 0 (by decide) (hts _ mw_1063) rfl (by decide +kernel) rfl rfl (Nat.le_of_ble_eq_true rfl) (Int.le_refl _) (Int.le_refl _) pM_0_0 d_Mo_poke_28 (fun H locs hI => ?_)
          refine sn_iconst hx hb d_Mo_poke_31 (by decide) (fun z101 hz101 => ?_)
          refine lv_istore (lv' := [(5, .int z101), (0, .ref (a 0)), (1, .int x1), (2, .long y2), (4, .int x4)]) hx hb d_Mo_poke_32 hl (by decide) rfl (fun ls hl => ?_)
          have ho102 : okM z100.toInt tr dp zi co sh lt ts mf := ⟨⟨by omega, by omega⟩, c87.2.1, c87.2.2.1, c87.2.2.2.1, c87.2.2.2.2.1, c87.2.2.2.2.2.1, c87.2.2.2.2.2.2.1, c87.2.2.2.2.2.2.2.1, c87.2.2.2.2.2.2.2.2⟩
          exact j34z 9 _ _ _ z101 y2 z100.toInt mf hI ho102 (by omega) (by omega) (by omega) (by omega) (by omega) (by omega) (by omega) (by omega) (by omega) (by omega) (by omega) (by omega) (lv_sub hl [1, 2, 3, 4, 0] rfl) (by omega)
        · refine sn_iconst hx hb d_Mo_poke_23 (by decide) (fun z103 hz103 => ?_)
          refine lv_goto (tgt := 28) hx hb d_Mo_poke_24 (by decide) ?_
          refine sv_put (C := "StoryMachineModel") (T := T_Mo) (N := 51) (ty := .int) hx hb hts in_Mo t_Mo tk_Mo nm_Mo hown hK (sh_in adM_map hAC) hI 0 kM_0 rfl 0 (by decide) (hts _ mw_1063) rfl (by decide +kernel) rfl rfl (Nat.le_of_ble_eq_true rfl) (Int.le_refl _) (Int.le_refl _) pM_0_0 d_Mo_poke_28 (fun H locs hI => ?_)
          refine sn_iconst hx hb d_Mo_poke_31 (by decide) (fun z104 hz104 => ?_)
          refine lv_istore (lv' := [(5, .int z104), (0, .ref (a 0)), (1, .int x1), (2, .long y2), (4, .int x4)]) hx hb d_Mo_poke_32 hl (by decide) rfl (fun ls hl => ?_)
          have ho105 : okM z103.toInt tr dp zi co sh lt ts mf := ⟨⟨by omega, by omega⟩, c87.2.1, c87.2.2.1, c87.2.2.2.1, c87.2.2.2.2.1, c87.2.2.2.2.2.1, c87.2.2.2.2.2.2.1, c87.2.2.2.2.2.2.2.1, c87.2.2.2.2.2.2.2.2⟩
          exact j34p _ _ _ z104 y2 z103.toInt hI ho105 (by omega) (by omega) (by omega) (by omega) (by omega) (lv_sub hl [1, 2, 3, 4, 0] rfl)
