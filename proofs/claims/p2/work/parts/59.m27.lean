abbrev q_SM_steps (dC : Nat → ClassId) (dI : Nat → Nat → Nat) (cI cJ : ClassId) (a : Nat → Nat) (he dp co li op wd tl lc fo : Int) (sf lf nf : Nat → Int32) : Outcome → State → Prop := fun o t => (∀ v, o = .returned v → ((∃ (z : Int32), v = some (.int z) ∧ okC he dp co li op wd tl lc fo sf lf nf ∧ ((-2147483648) ≤ z.toInt) ∧ (z.toInt ≤ 2147483647) ∧ sh_I (dC, dI) vcl cI cJ (gsC a he dp co li op wd tl lc fo sf lf nf) t.heap))) ∧ (∀ x, o = .threw x → (False))
def rm_SM_steps : Room := { frames := 0, cells := 0, slots := 0, locals := 0 }
set_option maxHeartbeats 4000000 in
set_option maxRecDepth 100000 in
theorem c_SM_steps (l : Launch) (hfl : l.flags = pinnedFlags ++ [noTraceFlag]) (dC : Nat → ClassId) (dI : Nat → Nat → Nat) (cI cJ : ClassId) (a : Nat → Nat) (sz : Nat) (he dp co li op wd tl lc fo : Int) (sf lf nf : Nat → Int32) (hok : okC he dp co li op wd tl lc fo sf lf nf) : tz_Met l ⟨"StoryMachine", "steps", "()I"⟩ tw_tbl rm_SM_steps (tzP (dC, dI) vcl cI cJ (gsC a he dp co li op wd tl lc fo sf lf nf) a (adC a) [.ref (a 0)] sz) (tq_Q (q_SM_steps dC dI cI cJ a he dp co li op wd tl lc fo sf lf nf) (ga (adC a) sz)) 0 0 0 0 (ga (adC a) sz) := by
  refine tz_ofW (cc := prog_1_method_8_code) (maxL := 1) (ret := (some .int)) (by decide) (tx_isM mw_337) ?_
  intro p e s m args below meth c s₁ B hml hv
  obtain ⟨rfl, hsz, hI0, hK, hst0⟩ := hv
  have hx := B.exec
  have hb := B.bytes
  have hr := B.returns
  have hts := atoms_spec (ws := tw_tbl) B.pre
  have hown : s.vm.findClass "StoryMachine" = some m.cls := findClass_of_methodNamed B.named
  have hlocks := B.notSynchronized
  subst hsz
  have hst := fun (H : Heap) (locs : List Loc) (hS : va_S (ga (adC a) s.heap.size) s.heap H locs) (U : State) (hU : U.heap = H) (hW : s.WarmedH U.vm) => zS_all adC_map hI0 hst0 hS hU hW
  have hAC : ∀ q ∈ adC a, ga (adC a) s.heap.size q := fun q h => Or.inl h
  have hA0 : ∀ q, s.heap.size ≤ q → ga (adC a) s.heap.size q := fun q h => Or.inr h
  have hI : sI (dC, dI) vcl cI cJ (gsC a he dp co li op wd tl lc fo sf lf nf) (ga (adC a) s.heap.size) s.heap s.heap [] := ⟨hI0, va_S.rf⟩
  clear hI0 hst0
  have hl := lv_entry ([.ref (a 0)]) (n := 1) (Nat.le_of_ble_eq_true rfl)
  rw [lg_entry_eq]
  generalize (lg_sl ([.ref (a 0)]) ++ List.replicate (1 - (lg_sl ([.ref (a 0)])).length) Slot.unset).toArray = ls at hl ⊢
  have hl : lv_has ls 1 [(0, .ref (a 0))] := hl
  generalize hZ : tz_MQ below (tq_Q (q_SM_steps dC dI cI cJ a he dp co li op wd tl lc fo sf lf nf) (ga (adC a) s.heap.size)) ([.ref (a 0)] : List Value).toArray s 0 0 0 0 (ga (adC a) s.heap.size) = Z
  obtain ⟨A, hAe⟩ : ∃ A, A = ga (adC a) s.heap.size := ⟨_, rfl⟩
  rw [← hAe] at hst hAC hA0 hI hZ
  refine sv_start hI (fun H locs hI => ?_)
  obtain ⟨⟨o1, o2⟩, ⟨o3, o4⟩, ⟨o5, o6⟩, ⟨o7, o8⟩, ⟨o9, o10⟩, ⟨o11, o12⟩, ⟨o13, o14⟩, ⟨o15, o16⟩, ⟨o17, o18⟩, o19, -, -⟩ := id hok
  refine lv_aload_n hx hb d_SM_steps_0 rfl (lv_at hl 0 rfl) ?_
  refine sv_getr (C := "StoryMachine") (T := T_SM) (N := 5) hx hb hts in_SM hown hK hI 0 kC_0 rfl 4 (by decide) (hts _ mw_314) rfl d_SM_steps_1 ?_
  refine sv_get (C := "StoryMachine$Engine") (T := T_En) (N := 15) hx hb hts in_En hown hK hI 5 kC_5 rfl 12 (by decide) (hts _ mw_276) rfl d_SM_steps_4 (fun z20 hz20a hz20b => ?_)
  subst hZ
  exact tz_ret (W.iret (v := z20) hx hb hr (fun t ht hW => ⟨⟨fun v9 hv9 => by cases hv9; exact (⟨z20, rfl, hok, by omega, by omega, by rw [ht]; exact hI.1⟩), fun x9 hx9 => (by cases hx9)⟩, hI.2.F ht⟩) hI.2.2.2 d_SM_steps_7)
abbrev q_SM_place (dC : Nat → ClassId) (dI : Nat → Nat → Nat) (cI cJ : ClassId) (a : Nat → Nat) (he dp co li op wd tl lc fo : Int) (sf lf nf : Nat → Int32) : Outcome → State → Prop := fun o t => (∀ v, o = .returned v → ((∃ (z : Int32), v = some (.int z) ∧ okC he dp co li op wd tl lc fo sf lf nf ∧ ((-2147483648) ≤ z.toInt) ∧ (z.toInt ≤ 2147483647) ∧ sh_I (dC, dI) vcl cI cJ (gsC a he dp co li op wd tl lc fo sf lf nf) t.heap))) ∧ (∀ x, o = .threw x → (False))
def rm_SM_place : Room := { frames := 0, cells := 0, slots := 0, locals := 0 }
set_option maxHeartbeats 4000000 in
set_option maxRecDepth 100000 in
theorem c_SM_place (l : Launch) (hfl : l.flags = pinnedFlags ++ [noTraceFlag]) (dC : Nat → ClassId) (dI : Nat → Nat → Nat) (cI cJ : ClassId) (a : Nat → Nat) (sz : Nat) (he dp co li op wd tl lc fo : Int) (sf lf nf : Nat → Int32) (hok : okC he dp co li op wd tl lc fo sf lf nf) : tz_Met l ⟨"StoryMachine", "place", "()I"⟩ tw_tbl rm_SM_place (tzP (dC, dI) vcl cI cJ (gsC a he dp co li op wd tl lc fo sf lf nf) a (adC a) [.ref (a 0)] sz) (tq_Q (q_SM_place dC dI cI cJ a he dp co li op wd tl lc fo sf lf nf) (ga (adC a) sz)) 0 0 0 0 (ga (adC a) sz) := by
  refine tz_ofW (cc := prog_1_method_9_code) (maxL := 1) (ret := (some .int)) (by decide) (tx_isM mw_341) ?_
  intro p e s m args below meth c s₁ B hml hv
  obtain ⟨rfl, hsz, hI0, hK, hst0⟩ := hv
  have hx := B.exec
  have hb := B.bytes
  have hr := B.returns
  have hts := atoms_spec (ws := tw_tbl) B.pre
  have hown : s.vm.findClass "StoryMachine" = some m.cls := findClass_of_methodNamed B.named
  have hlocks := B.notSynchronized
  subst hsz
  have hst := fun (H : Heap) (locs : List Loc) (hS : va_S (ga (adC a) s.heap.size) s.heap H locs) (U : State) (hU : U.heap = H) (hW : s.WarmedH U.vm) => zS_all adC_map hI0 hst0 hS hU hW
  have hAC : ∀ q ∈ adC a, ga (adC a) s.heap.size q := fun q h => Or.inl h
  have hA0 : ∀ q, s.heap.size ≤ q → ga (adC a) s.heap.size q := fun q h => Or.inr h
  have hI : sI (dC, dI) vcl cI cJ (gsC a he dp co li op wd tl lc fo sf lf nf) (ga (adC a) s.heap.size) s.heap s.heap [] := ⟨hI0, va_S.rf⟩
  clear hI0 hst0
  have hl := lv_entry ([.ref (a 0)]) (n := 1) (Nat.le_of_ble_eq_true rfl)
  rw [lg_entry_eq]
  generalize (lg_sl ([.ref (a 0)]) ++ List.replicate (1 - (lg_sl ([.ref (a 0)])).length) Slot.unset).toArray = ls at hl ⊢
  have hl : lv_has ls 1 [(0, .ref (a 0))] := hl
  generalize hZ : tz_MQ below (tq_Q (q_SM_place dC dI cI cJ a he dp co li op wd tl lc fo sf lf nf) (ga (adC a) s.heap.size)) ([.ref (a 0)] : List Value).toArray s 0 0 0 0 (ga (adC a) s.heap.size) = Z
  obtain ⟨A, hAe⟩ : ∃ A, A = ga (adC a) s.heap.size := ⟨_, rfl⟩
  rw [← hAe] at hst hAC hA0 hI hZ
  refine sv_start hI (fun H locs hI => ?_)
  obtain ⟨⟨o1, o2⟩, ⟨o3, o4⟩, ⟨o5, o6⟩, ⟨o7, o8⟩, ⟨o9, o10⟩, ⟨o11, o12⟩, ⟨o13, o14⟩, ⟨o15, o16⟩, ⟨o17, o18⟩, o19, -, -⟩ := id hok
  refine lv_aload_n hx hb d_SM_place_0 rfl (lv_at hl 0 rfl) ?_
  refine sv_getr (C := "StoryMachine") (T := T_SM) (N := 5) hx hb hts in_SM hown hK hI 0 kC_0 rfl 4 (by decide) (hts _ mw_314) rfl d_SM_place_1 ?_
  refine sv_get (C := "StoryMachine$Engine") (T := T_En) (N := 15) hx hb hts in_En hown hK hI 5 kC_5 rfl 11 (by decide) (hts _ mw_274) rfl d_SM_place_4 (fun z20 hz20a hz20b => ?_)
  subst hZ
  exact tz_ret (W.iret (v := z20) hx hb hr (fun t ht hW => ⟨⟨fun v9 hv9 => by cases hv9; exact (⟨z20, rfl, hok, by omega, by omega, by rw [ht]; exact hI.1⟩), fun x9 hx9 => (by cases hx9)⟩, hI.2.F ht⟩) hI.2.2.2 d_SM_place_7)
abbrev q_SM_output (dC : Nat → ClassId) (dI : Nat → Nat → Nat) (cI cJ : ClassId) (a : Nat → Nat) (he dp co li op wd tl lc fo : Int) (sf lf nf : Nat → Int32) (x1 : Int32) : Outcome → State → Prop := fun o t => (∀ v, o = .returned v → ((∃ (z : Int32), v = some (.int z) ∧ okC he dp co li op wd tl lc fo sf lf nf ∧ ((-2147483648) ≤ z.toInt) ∧ (z.toInt ≤ 2147483647) ∧ ((-1) ≤ x1.toInt) ∧ (x1.toInt ≤ 63) ∧ sh_I (dC, dI) vcl cI cJ (gsC a he dp co li op wd tl lc fo sf lf nf) t.heap))) ∧ (∀ x, o = .threw x → ((ta_Ex "java/lang/IndexOutOfBoundsException" x t ∧ okC he dp co li op wd tl lc fo sf lf nf ∧ sh_I (dC, dI) vcl cI cJ (gsC a he dp co li op wd tl lc fo sf lf nf) t.heap)))
def rm_SM_output : Room := { frames := 7, cells := 1, slots := 6, locals := 130 }
set_option maxHeartbeats 4000000 in
set_option maxRecDepth 100000 in
theorem c_SM_output (l : Launch) (hfl : l.flags = pinnedFlags ++ [noTraceFlag]) (dC : Nat → ClassId) (dI : Nat → Nat → Nat) (cI cJ : ClassId) (a : Nat → Nat) (sz : Nat) (he dp co li op wd tl lc fo : Int) (sf lf nf : Nat → Int32) (x1 : Int32) (hok : okC he dp co li op wd tl lc fo sf lf nf) : tz_Met l ⟨"StoryMachine", "output", "(I)I"⟩ tw_tbl rm_SM_output (tzP (dC, dI) vcl cI cJ (gsC a he dp co li op wd tl lc fo sf lf nf) a (adC a) [.ref (a 0), .int x1] sz) (tq_Q (q_SM_output dC dI cI cJ a he dp co li op wd tl lc fo sf lf nf x1) (ga (adC a) sz)) 0 0 1 6 (ga (adC a) sz) := by
  refine tz_ofW (cc := prog_1_method_10_code) (maxL := 2) (ret := (some .int)) (by decide) (tx_isM mw_1018) ?_
  intro p e s m args below meth c s₁ B hml hv
  obtain ⟨rfl, hsz, hI0, hK, hst0⟩ := hv
  have hx := B.exec
  have hb := B.bytes
  have hr := B.returns
  have hts := atoms_spec (ws := tw_tbl) B.pre
  have hown : s.vm.findClass "StoryMachine" = some m.cls := findClass_of_methodNamed B.named
  have hlocks := B.notSynchronized
  subst hsz
  have hst := fun (H : Heap) (locs : List Loc) (hS : va_S (ga (adC a) s.heap.size) s.heap H locs) (U : State) (hU : U.heap = H) (hW : s.WarmedH U.vm) => zS_all adC_map hI0 hst0 hS hU hW
  have hAC : ∀ q ∈ adC a, ga (adC a) s.heap.size q := fun q h => Or.inl h
  have hA0 : ∀ q, s.heap.size ≤ q → ga (adC a) s.heap.size q := fun q h => Or.inr h
  have hI : sI (dC, dI) vcl cI cJ (gsC a he dp co li op wd tl lc fo sf lf nf) (ga (adC a) s.heap.size) s.heap s.heap [] := ⟨hI0, va_S.rf⟩
  clear hI0 hst0
  have hl := lv_entry ([.ref (a 0), .int x1]) (n := 2) (Nat.le_of_ble_eq_true rfl)
  rw [lg_entry_eq]
  generalize (lg_sl ([.ref (a 0), .int x1]) ++ List.replicate (2 - (lg_sl ([.ref (a 0), .int x1])).length) Slot.unset).toArray = ls at hl ⊢
  have hl : lv_has ls 2 [(0, .ref (a 0)), (1, .int x1)] := hl
  generalize hZ : tz_MQ below (tq_Q (q_SM_output dC dI cI cJ a he dp co li op wd tl lc fo sf lf nf x1) (ga (adC a) s.heap.size)) ([.ref (a 0), .int x1] : List Value).toArray s 0 0 1 6 (ga (adC a) s.heap.size) = Z
  obtain ⟨A, hAe⟩ : ∃ A, A = ga (adC a) s.heap.size := ⟨_, rfl⟩
  rw [← hAe] at hst hAC hA0 hI hZ
  refine sv_start hI (fun H locs hI => ?_)
  obtain ⟨⟨o1, o2⟩, ⟨o3, o4⟩, ⟨o5, o6⟩, ⟨o7, o8⟩, ⟨o9, o10⟩, ⟨o11, o12⟩, ⟨o13, o14⟩, ⟨o15, o16⟩, ⟨o17, o18⟩, o19, -, -⟩ := id hok
  have gx1 := sn_rng x1
  have j22 : ∀ (H : Heap) (locs : List Loc) (ls : Array Slot), sI (dC, dI) vcl cI cJ (gsC a he dp co li op wd tl lc fo sf lf nf) A s.heap H locs → okC he dp co li op wd tl lc fo sf lf nf → lv_has ls 2 [(0, .ref (a 0)), (1, .int x1)] → W p l e (headSpec tw_tbl rm_SM_output).room s m ([.ref (a 0), .int x1] : List Value).toArray below meth c H locs 0 0 Z (F0 m 22 ls []) := by
    intro H locs ls hI hok hl
    obtain ⟨⟨o20, o21⟩, ⟨o22, o23⟩, ⟨o24, o25⟩, ⟨o26, o27⟩, ⟨o28, o29⟩, ⟨o30, o31⟩, ⟨o32, o33⟩, ⟨o34, o35⟩, ⟨o36, o37⟩, o38, -, -⟩ := id hok
    refine W.widen (k := 0) (n := 0) (Nat.le_of_ble_eq_true rfl) (Nat.le_of_ble_eq_true rfl) ?_
    subst hZ
    exact tz_thrown (tth_SM_IndexOutOfBoundsException hx hb hfl hown hts (fun U hU hW => (hst _ _ hI.2 U hU hW).1) (by rw [hml]; exact hl.1) d_SM_output_22 d_SM_output_25 d_SM_output_26 d_SM_output_29 (tx_noH B (hts _ mw_1018) _) (Nat.le_of_ble_eq_true rfl) (Nat.le_of_ble_eq_true rfl) (Nat.le_of_ble_eq_true rfl) (Nat.le_of_ble_eq_true rfl) (fun t ce hW hz hk hce hcl hvm => ⟨⟨⟨fun v9 hv9 => (by cases hv9), fun x9 hx9 => by cases hx9; exact (⟨⟨ce, hce, hcl, hvm⟩, hok, sh_kept hI.1 hk⟩)⟩, ta_thrown hI.2 hz hk⟩, _, rfl⟩) hI.2.2.2 hlocks)
  refine lv_iload_n hx hb d_SM_output_0 rfl (lv_at hl 1 rfl) ?_
  refine sn_iconst hx hb d_SM_output_1 (by decide) (fun z39 hz39 => ?_)
  refine sn_icmp_lt (tgt := 22) hx hb d_SM_output_2 (by decide) (fun b40 => ?_) (fun b40 => ?_)
  · exact j22 _ _ _  hI hok (lv_sub hl [0, 1] rfl)
  · refine lv_iload_n hx hb d_SM_output_5 rfl (lv_at hl 1 rfl) ?_
    refine sn_bipush hx hb d_SM_output_6 (by decide) (fun z41 hz41 => ?_)
    refine sn_icmp_ge (tgt := 22) hx hb d_SM_output_8 (by decide) (fun b42 => ?_) (fun b42 => ?_)
    · exact j22 _ _ _  hI hok (lv_sub hl [0, 1] rfl)
    · refine lv_iload_n hx hb d_SM_output_11 rfl (lv_at hl 1 rfl) ?_
      refine lv_aload_n hx hb d_SM_output_12 rfl (lv_at hl 0 rfl) ?_
      refine sv_getr (C := "StoryMachine") (T := T_SM) (N := 5) hx hb hts in_SM hown hK hI 0 kC_0 rfl 3 (by decide) (hts _ mw_313) rfl d_SM_output_13 ?_
      refine sv_get (C := "StoryMachine$Printer") (T := T_Pr) (N := 5) hx hb hts in_Pr hown hK hI 4 kC_4 rfl 2 (by decide) (hts _ mw_118) rfl d_SM_output_16 (fun z43 hz43a hz43b => ?_)
      refine sn_icmp_lt (tgt := 30) hx hb d_SM_output_19 (by decide) (fun b44 => ?_) (fun b44 => ?_)
      · refine lv_iload_n hx hb d_SM_output_30 rfl (lv_at hl 1 rfl) ?_
        refine sn_iconst hx hb d_SM_output_31 (by decide) (fun z45 hz45 => ?_)
        refine sn_icmp_ne (tgt := 45) hx hb d_SM_output_32 (by decide) (fun b46 => ?_) (fun b46 => ?_)
        · refine lv_aload_n hx hb d_SM_output_45 rfl (lv_at hl 0 rfl) ?_
          refine sv_getr (C := "StoryMachine") (T := T_SM) (N := 5) hx hb hts in_SM hown hK hI 0 kC_0 rfl 3 (by decide) (hts _ mw_313) rfl d_SM_output_46 ?_
          refine lv_iload_n hx hb d_SM_output_49 rfl (lv_at hl 1 rfl) ?_
          refine tz_call (A1 := ga (adC a) H.size) (tz_runV (C := "StoryMachine$Printer") (As := [.int x1]) (rest := []) ⟨hx, hb, hml, hown, hts⟩ (c_Pr_latest l hfl dC dI cI cJ a H.size he dp co li op wd tl lc fo sf lf nf x1 hok) (tx_cb (n := 1) hts rfl rfl ⟨Nat.le_of_ble_eq_true rfl, Nat.le_of_ble_eq_true rfl⟩ (tx_code.of (hts _ mw_1037)) (hts _ mw_5) (by decide +kernel) (hts _ mw_1034)) (hts _ mw_1035) (hts _ mw_1036) ⟨tz_blind, sv_recv (q0 := 4) hts in_Pr hK hI kC_4 rfl, fun U hU hW => ⟨rfl, by rw [hU], by rw [hU]; exact hI.1, va_K.moved hW.alike hK, hst _ _ hI.2 U hU hW⟩⟩ rfl rfl hl.1 rfl (lv_room (Nat.le_of_ble_eq_true rfl)) d_SM_output_50 ⟨Nat.le_of_ble_eq_true rfl, Nat.le_of_ble_eq_true rfl⟩) hI.2 (fun q _ h => ga_sub hAC hA0 hI.2 q h) (ga_sub hAC hA0 hI.2) (fun v t H1 locs1 ht hWt hpost _ _ hS => ?_) (fun x t H1 locs1 ht hWt hpost _ _ hS => (hpost.2 x rfl).elim)
          rcases hpost.1 _ rfl with ⟨z47, hv, c48, c48_0, c48_1, hI1⟩
          cases hv
          have hI : sI (dC, dI) vcl cI cJ (gsC a he dp co li op wd tl lc fo sf lf nf) A s.heap H1 locs1 := ⟨by rw [← ht]; exact hI1, hS⟩
          clear hpost hI1 hS ht hWt
          revert hI; generalize H1 = H; generalize locs1 = locs; intro hI
          subst hZ
          exact tz_ret (W.iret (v := z47) hx hb hr (fun t ht hW => ⟨⟨fun v9 hv9 => by cases hv9; exact (⟨z47, rfl, c48, by omega, by omega, by omega, by omega, by rw [ht]; exact hI.1⟩), fun x9 hx9 => (by cases hx9)⟩, hI.2.F ht⟩) hI.2.2.2 d_SM_output_53)
        · refine lv_aload_n hx hb d_SM_output_35 rfl (lv_at hl 0 rfl) ?_
          refine sv_getr (C := "StoryMachine") (T := T_SM) (N := 5) hx hb hts in_SM hown hK hI 0 kC_0 rfl 3 (by decide) (hts _ mw_313) rfl d_SM_output_36 ?_
          refine sv_get (C := "StoryMachine$Printer") (T := T_Pr) (N := 5) hx hb hts in_Pr hown hK hI 4 kC_4 rfl 2 (by decide) (hts _ mw_118) rfl d_SM_output_39 (fun z49 hz49a hz49b => ?_)
          refine lv_goto (tgt := 53) hx hb d_SM_output_42 (by decide) ?_
          subst hZ
          exact tz_ret (W.iret (v := z49) hx hb hr (fun t ht hW => ⟨⟨fun v9 hv9 => by cases hv9; exact (⟨z49, rfl, hok, by omega, by omega, by omega, by omega, by rw [ht]; exact hI.1⟩), fun x9 hx9 => (by cases hx9)⟩, hI.2.F ht⟩) hI.2.2.2 d_SM_output_53)
      · exact j22 _ _ _  hI hok (lv_sub hl [0, 1] rfl)
abbrev q_SM_stack (dC : Nat → ClassId) (dI : Nat → Nat → Nat) (cI cJ : ClassId) (a : Nat → Nat) (he dp co li op wd tl lc fo : Int) (sf lf nf : Nat → Int32) (x1 : Int32) : Outcome → State → Prop := fun o t => (∀ v, o = .returned v → ((∃ (z : Int32), v = some (.int z) ∧ okC he dp co li op wd tl lc fo sf lf nf ∧ (0 ≤ z.toInt) ∧ (z.toInt ≤ 65535) ∧ ((-1) ≤ x1.toInt) ∧ (x1.toInt ≤ 47) ∧ sh_I (dC, dI) vcl cI cJ (gsC a he dp co li op wd tl lc fo sf lf nf) t.heap))) ∧ (∀ x, o = .threw x → ((ta_Ex "java/lang/IndexOutOfBoundsException" x t ∧ okC he dp co li op wd tl lc fo sf lf nf ∧ sh_I (dC, dI) vcl cI cJ (gsC a he dp co li op wd tl lc fo sf lf nf) t.heap)))
def rm_SM_stack : Room := { frames := 7, cells := 1, slots := 6, locals := 130 }
set_option maxHeartbeats 4000000 in
set_option maxRecDepth 100000 in
theorem c_SM_stack (l : Launch) (hfl : l.flags = pinnedFlags ++ [noTraceFlag]) (dC : Nat → ClassId) (dI : Nat → Nat → Nat) (cI cJ : ClassId) (a : Nat → Nat) (sz : Nat) (he dp co li op wd tl lc fo : Int) (sf lf nf : Nat → Int32) (x1 : Int32) (hok : okC he dp co li op wd tl lc fo sf lf nf) : tz_Met l ⟨"StoryMachine", "stack", "(I)I"⟩ tw_tbl rm_SM_stack (tzP (dC, dI) vcl cI cJ (gsC a he dp co li op wd tl lc fo sf lf nf) a (adC a) [.ref (a 0), .int x1] sz) (tq_Q (q_SM_stack dC dI cI cJ a he dp co li op wd tl lc fo sf lf nf x1) (ga (adC a) sz)) 0 0 1 6 (ga (adC a) sz) := by
  refine tz_ofW (cc := prog_1_method_11_code) (maxL := 2) (ret := (some .int)) (by decide) (tx_isM mw_1044) ?_
  intro p e s m args below meth c s₁ B hml hv
  obtain ⟨rfl, hsz, hI0, hK, hst0⟩ := hv
  have hx := B.exec
  have hb := B.bytes
  have hr := B.returns
  have hts := atoms_spec (ws := tw_tbl) B.pre
  have hown : s.vm.findClass "StoryMachine" = some m.cls := findClass_of_methodNamed B.named
  have hlocks := B.notSynchronized
  subst hsz
  have hst := fun (H : Heap) (locs : List Loc) (hS : va_S (ga (adC a) s.heap.size) s.heap H locs) (U : State) (hU : U.heap = H) (hW : s.WarmedH U.vm) => zS_all adC_map hI0 hst0 hS hU hW
  have hAC : ∀ q ∈ adC a, ga (adC a) s.heap.size q := fun q h => Or.inl h
  have hA0 : ∀ q, s.heap.size ≤ q → ga (adC a) s.heap.size q := fun q h => Or.inr h
  have hI : sI (dC, dI) vcl cI cJ (gsC a he dp co li op wd tl lc fo sf lf nf) (ga (adC a) s.heap.size) s.heap s.heap [] := ⟨hI0, va_S.rf⟩
  clear hI0 hst0
  have hl := lv_entry ([.ref (a 0), .int x1]) (n := 2) (Nat.le_of_ble_eq_true rfl)
  rw [lg_entry_eq]
  generalize (lg_sl ([.ref (a 0), .int x1]) ++ List.replicate (2 - (lg_sl ([.ref (a 0), .int x1])).length) Slot.unset).toArray = ls at hl ⊢
  have hl : lv_has ls 2 [(0, .ref (a 0)), (1, .int x1)] := hl
  generalize hZ : tz_MQ below (tq_Q (q_SM_stack dC dI cI cJ a he dp co li op wd tl lc fo sf lf nf x1) (ga (adC a) s.heap.size)) ([.ref (a 0), .int x1] : List Value).toArray s 0 0 1 6 (ga (adC a) s.heap.size) = Z
  obtain ⟨A, hAe⟩ : ∃ A, A = ga (adC a) s.heap.size := ⟨_, rfl⟩
  rw [← hAe] at hst hAC hA0 hI hZ
  refine sv_start hI (fun H locs hI => ?_)
  obtain ⟨⟨o1, o2⟩, ⟨o3, o4⟩, ⟨o5, o6⟩, ⟨o7, o8⟩, ⟨o9, o10⟩, ⟨o11, o12⟩, ⟨o13, o14⟩, ⟨o15, o16⟩, ⟨o17, o18⟩, o19, -, -⟩ := id hok
  have gx1 := sn_rng x1
  have j16 : ∀ (H : Heap) (locs : List Loc) (ls : Array Slot), sI (dC, dI) vcl cI cJ (gsC a he dp co li op wd tl lc fo sf lf nf) A s.heap H locs → okC he dp co li op wd tl lc fo sf lf nf → lv_has ls 2 [(0, .ref (a 0)), (1, .int x1)] → W p l e (headSpec tw_tbl rm_SM_stack).room s m ([.ref (a 0), .int x1] : List Value).toArray below meth c H locs 0 0 Z (F0 m 16 ls []) := by
    intro H locs ls hI hok hl
    obtain ⟨⟨o20, o21⟩, ⟨o22, o23⟩, ⟨o24, o25⟩, ⟨o26, o27⟩, ⟨o28, o29⟩, ⟨o30, o31⟩, ⟨o32, o33⟩, ⟨o34, o35⟩, ⟨o36, o37⟩, o38, -, -⟩ := id hok
    refine W.widen (k := 0) (n := 0) (Nat.le_of_ble_eq_true rfl) (Nat.le_of_ble_eq_true rfl) ?_
    subst hZ
    exact tz_thrown (tth_SM_IndexOutOfBoundsException hx hb hfl hown hts (fun U hU hW => (hst _ _ hI.2 U hU hW).1) (by rw [hml]; exact hl.1) d_SM_stack_16 d_SM_stack_19 d_SM_stack_20 d_SM_stack_23 (tx_noH B (hts _ mw_1044) _) (Nat.le_of_ble_eq_true rfl) (Nat.le_of_ble_eq_true rfl) (Nat.le_of_ble_eq_true rfl) (Nat.le_of_ble_eq_true rfl) (fun t ce hW hz hk hce hcl hvm => ⟨⟨⟨fun v9 hv9 => (by cases hv9), fun x9 hx9 => by cases hx9; exact (⟨⟨ce, hce, hcl, hvm⟩, hok, sh_kept hI.1 hk⟩)⟩, ta_thrown hI.2 hz hk⟩, _, rfl⟩) hI.2.2.2 hlocks)
  refine lv_iload_n hx hb d_SM_stack_0 rfl (lv_at hl 1 rfl) ?_
  refine sn_iconst hx hb d_SM_stack_1 (by decide) (fun z39 hz39 => ?_)
  refine sn_icmp_lt (tgt := 16) hx hb d_SM_stack_2 (by decide) (fun b40 => ?_) (fun b40 => ?_)
  · exact j16 _ _ _  hI hok (lv_sub hl [0, 1] rfl)
  · refine lv_iload_n hx hb d_SM_stack_5 rfl (lv_at hl 1 rfl) ?_
    refine lv_aload_n hx hb d_SM_stack_6 rfl (lv_at hl 0 rfl) ?_
    refine sv_getr (C := "StoryMachine") (T := T_SM) (N := 5) hx hb hts in_SM hown hK hI 0 kC_0 rfl 2 (by decide) (hts _ mw_312) rfl d_SM_stack_7 ?_
    refine sv_gete (C := "StoryMachine$Routines") (T := T_Ro) (N := 8) hx hb hts in_Ro hown hK hI 3 kC_3 rfl 1 (by decide) (hts _ mw_83) rfl d_SM_stack_10 (fun z41 hz41 => ?_)
    refine sn_icmp_lt (tgt := 24) hx hb d_SM_stack_13 (by decide) (fun b42 => ?_) (fun b42 => ?_)
    · refine lv_iload_n hx hb d_SM_stack_24 rfl (lv_at hl 1 rfl) ?_
      refine sn_iconst hx hb d_SM_stack_25 (by decide) (fun z43 hz43 => ?_)
      refine sn_icmp_ne (tgt := 39) hx hb d_SM_stack_26 (by decide) (fun b44 => ?_) (fun b44 => ?_)
      · refine lv_aload_n hx hb d_SM_stack_39 rfl (lv_at hl 0 rfl) ?_
        refine sv_getr (C := "StoryMachine") (T := T_SM) (N := 5) hx hb hts in_SM hown hK hI 0 kC_0 rfl 2 (by decide) (hts _ mw_312) rfl d_SM_stack_40 ?_
        refine sv_getr (C := "StoryMachine$Routines") (T := T_Ro) (N := 8) hx hb hts in_Ro hown hK hI 3 kC_3 rfl 0 (by decide) (hts _ mw_81) rfl d_SM_stack_43 ?_
        refine lv_aload_n hx hb d_SM_stack_46 rfl (lv_at hl 0 rfl) ?_
        refine sv_getr (C := "StoryMachine") (T := T_SM) (N := 5) hx hb hts in_SM hown hK hI 0 kC_0 rfl 2 (by decide) (hts _ mw_312) rfl d_SM_stack_47 ?_
        refine sv_gete (C := "StoryMachine$Routines") (T := T_Ro) (N := 8) hx hb hts in_Ro hown hK hI 3 kC_3 rfl 1 (by decide) (hts _ mw_83) rfl d_SM_stack_50 (fun z45 hz45 => ?_)
        refine sn_iconst hx hb d_SM_stack_53 (by decide) (fun z46 hz46 => ?_)
        refine sn_isub hx hb d_SM_stack_54 (by omega) (by omega) (fun z47 hz47 => ?_)
        refine lv_iload_n hx hb d_SM_stack_55 rfl (lv_at hl 1 rfl) ?_
        refine sn_isub hx hb d_SM_stack_56 (by omega) (by omega) (fun z48 hz48 => ?_)
        refine sv_ialdr hx hb hK hI 9 kC_9 (by omega) (by omega) d_SM_stack_57 (fun z49 hz49a hz49b => ?_)
        subst hZ
        exact tz_ret (W.iret (v := z49) hx hb hr (fun t ht hW => ⟨⟨fun v9 hv9 => by cases hv9; exact (⟨z49, rfl, hok, by omega, by omega, by omega, by omega, by rw [ht]; exact hI.1⟩), fun x9 hx9 => (by cases hx9)⟩, hI.2.F ht⟩) hI.2.2.2 d_SM_stack_58)
      · refine lv_aload_n hx hb d_SM_stack_29 rfl (lv_at hl 0 rfl) ?_
        refine sv_getr (C := "StoryMachine") (T := T_SM) (N := 5) hx hb hts in_SM hown hK hI 0 kC_0 rfl 2 (by decide) (hts _ mw_312) rfl d_SM_stack_30 ?_
        refine sv_gete (C := "StoryMachine$Routines") (T := T_Ro) (N := 8) hx hb hts in_Ro hown hK hI 3 kC_3 rfl 1 (by decide) (hts _ mw_83) rfl d_SM_stack_33 (fun z50 hz50 => ?_)
        refine lv_goto (tgt := 58) hx hb d_SM_stack_36 (by decide) ?_
        subst hZ
        exact tz_ret (W.iret (v := z50) hx hb hr (fun t ht hW => ⟨⟨fun v9 hv9 => by cases hv9; exact (⟨z50, rfl, hok, by omega, by omega, by omega, by omega, by rw [ht]; exact hI.1⟩), fun x9 hx9 => (by cases hx9)⟩, hI.2.F ht⟩) hI.2.2.2 d_SM_stack_58)
    · exact j16 _ _ _  hI hok (lv_sub hl [0, 1] rfl)
abbrev q_Ro_localValuex (dC : Nat → ClassId) (dI : Nat → Nat → Nat) (cI cJ : ClassId) (a : Nat → Nat) (he dp co li op wd tl lc fo : Int) (sf lf nf : Nat → Int32) (x1 : Int32) : Outcome → State → Prop := fun o t => (∀ v, o = .returned v → ((∃ (z : Int32), v = some (.int z) ∧ okC he dp co li op wd tl lc fo sf lf nf ∧ (0 ≤ z.toInt) ∧ (z.toInt ≤ 65535) ∧ sh_I (dC, dI) vcl cI cJ (gsC a he dp co li op wd tl lc fo sf lf nf) t.heap))) ∧ (∀ x, o = .threw x → (False))
def rm_Ro_localValuex : Room := { frames := 0, cells := 0, slots := 0, locals := 0 }
set_option maxHeartbeats 4000000 in
set_option maxRecDepth 100000 in
theorem c_Ro_localValuex (l : Launch) (hfl : l.flags = pinnedFlags ++ [noTraceFlag]) (dC : Nat → ClassId) (dI : Nat → Nat → Nat) (cI cJ : ClassId) (a : Nat → Nat) (sz : Nat) (he dp co li op wd tl lc fo : Int) (sf lf nf : Nat → Int32) (x1 : Int32) (hok : okC he dp co li op wd tl lc fo sf lf nf) (hp0 : 1 ≤ x1.toInt) (hp1 : x1.toInt ≤ 15) (hp2 : x1.toInt ≤ (nf dp.toNat).toInt) : tz_Met l ⟨"StoryMachine$Routines", "localValue", "(I)I"⟩ tw_tbl rm_Ro_localValuex (tzP (dC, dI) vcl cI cJ (gsC a he dp co li op wd tl lc fo sf lf nf) a (adC a) [.ref (a 3), .int x1] sz) (tq_Q (q_Ro_localValuex dC dI cI cJ a he dp co li op wd tl lc fo sf lf nf x1) (ga (adC a) sz)) 0 0 0 0 (ga (adC a) sz) := by
  refine tz_ofW (cc := prog_9_method_8_code) (maxL := 2) (ret := (some .int)) (by decide) (tx_isM mw_553) ?_
  intro p e s m args below meth c s₁ B hml hv
  obtain ⟨rfl, hsz, hI0, hK, hst0⟩ := hv
  have hx := B.exec
  have hb := B.bytes
  have hr := B.returns
  have hts := atoms_spec (ws := tw_tbl) B.pre
  have hown : s.vm.findClass "StoryMachine$Routines" = some m.cls := findClass_of_methodNamed B.named
  have hlocks := B.notSynchronized
  subst hsz
  have hst := fun (H : Heap) (locs : List Loc) (hS : va_S (ga (adC a) s.heap.size) s.heap H locs) (U : State) (hU : U.heap = H) (hW : s.WarmedH U.vm) => zS_all adC_map hI0 hst0 hS hU hW
  have hAC : ∀ q ∈ adC a, ga (adC a) s.heap.size q := fun q h => Or.inl h
  have hA0 : ∀ q, s.heap.size ≤ q → ga (adC a) s.heap.size q := fun q h => Or.inr h
  have hI : sI (dC, dI) vcl cI cJ (gsC a he dp co li op wd tl lc fo sf lf nf) (ga (adC a) s.heap.size) s.heap s.heap [] := ⟨hI0, va_S.rf⟩
  clear hI0 hst0
  have hl := lv_entry ([.ref (a 3), .int x1]) (n := 2) (Nat.le_of_ble_eq_true rfl)
  rw [lg_entry_eq]
  generalize (lg_sl ([.ref (a 3), .int x1]) ++ List.replicate (2 - (lg_sl ([.ref (a 3), .int x1])).length) Slot.unset).toArray = ls at hl ⊢
  have hl : lv_has ls 2 [(0, .ref (a 3)), (1, .int x1)] := hl
  generalize hZ : tz_MQ below (tq_Q (q_Ro_localValuex dC dI cI cJ a he dp co li op wd tl lc fo sf lf nf x1) (ga (adC a) s.heap.size)) ([.ref (a 3), .int x1] : List Value).toArray s 0 0 0 0 (ga (adC a) s.heap.size) = Z
  obtain ⟨A, hAe⟩ : ∃ A, A = ga (adC a) s.heap.size := ⟨_, rfl⟩
  rw [← hAe] at hst hAC hA0 hI hZ
  refine sv_start hI (fun H locs hI => ?_)
  obtain ⟨⟨o1, o2⟩, ⟨o3, o4⟩, ⟨o5, o6⟩, ⟨o7, o8⟩, ⟨o9, o10⟩, ⟨o11, o12⟩, ⟨o13, o14⟩, ⟨o15, o16⟩, ⟨o17, o18⟩, o19, -, -⟩ := id hok
  have gx1 := sn_rng x1
  refine lv_iload_n hx hb d_Ro_localValue_0 rfl (lv_at hl 1 rfl) ?_
  refine sn_iconst hx hb d_Ro_localValue_1 (by decide) (fun z20 hz20 => ?_)
  refine sn_icmp_lt (tgt := 18) hx hb d_Ro_localValue_2 (by decide) (fun b21 => ?_) (fun b21 => ?_)
  · omega
  · refine lv_iload_n hx hb d_Ro_localValue_5 rfl (lv_at hl 1 rfl) ?_
    refine lv_aload_n hx hb d_Ro_localValue_6 rfl (lv_at hl 0 rfl) ?_
    refine sv_getr (C := "StoryMachine$Routines") (T := T_Ro) (N := 8) hx hb hts in_Ro hown hK hI 3 kC_3 rfl 6 (by decide) (hts _ mw_89) rfl d_Ro_localValue_7 ?_
    refine lv_aload_n hx hb d_Ro_localValue_10 rfl (lv_at hl 0 rfl) ?_
    refine sv_gete (C := "StoryMachine$Routines") (T := T_Ro) (N := 8) hx hb hts in_Ro hown hK hI 3 kC_3 rfl 2 (by decide) (hts _ mw_84) rfl d_Ro_localValue_11 (fun z22 hz22 => ?_)
    refine sv_ialde hx hb hK hI 13 kC_13 (by omega) (by omega) d_Ro_localValue_14 (fun z23 hz23 => ?_)
    have hz23r := hok.2.2.2.2.2.2.2.2.2.2.2 (z22.toNatClampNeg)
    rw [← hz23] at hz23r
    have hz23x : z23.toInt = (nf z22.toInt.toNat).toInt := by rw [hz23]; rfl
    rw [hz22] at hz23x
    refine sn_icmp_le (tgt := 26) hx hb d_Ro_localValue_15 (by decide) (fun b24 => ?_) (fun b24 => ?_)
    · refine lv_aload_n hx hb d_Ro_localValue_26 rfl (lv_at hl 0 rfl) ?_
      refine sv_getr (C := "StoryMachine$Routines") (T := T_Ro) (N := 8) hx hb hts in_Ro hown hK hI 3 kC_3 rfl 7 (by decide) (hts _ mw_90) rfl d_Ro_localValue_27 ?_
      refine lv_aload_n hx hb d_Ro_localValue_30 rfl (lv_at hl 0 rfl) ?_
      refine sv_gete (C := "StoryMachine$Routines") (T := T_Ro) (N := 8) hx hb hts in_Ro hown hK hI 3 kC_3 rfl 2 (by decide) (hts _ mw_84) rfl d_Ro_localValue_31 (fun z25 hz25 => ?_)
      refine sn_bipush hx hb d_Ro_localValue_34 (by decide) (fun z26 hz26 => ?_)
      refine sn_imulR (k := 15) hx hb d_Ro_localValue_36 (by omega) (by omega) (by omega) (fun z27 hz27 => ?_)
      refine lv_iload_n hx hb d_Ro_localValue_37 rfl (lv_at hl 1 rfl) ?_
      refine sn_iadd hx hb d_Ro_localValue_38 (by omega) (by omega) (fun z28 hz28 => ?_)
      refine sn_iconst hx hb d_Ro_localValue_39 (by decide) (fun z29 hz29 => ?_)
      refine sn_isub hx hb d_Ro_localValue_40 (by omega) (by omega) (fun z30 hz30 => ?_)
      refine sv_ialdr hx hb hK hI 14 kC_14 (by omega) (by omega) d_Ro_localValue_41 (fun z31 hz31a hz31b => ?_)
      subst hZ
      exact tz_ret (W.iret (v := z31) hx hb hr (fun t ht hW => ⟨⟨fun v9 hv9 => by cases hv9; exact (⟨z31, rfl, hok, by omega, by omega, by rw [ht]; exact hI.1⟩), fun x9 hx9 => (by cases hx9)⟩, hI.2.F ht⟩) hI.2.2.2 d_Ro_localValue_42)
    · exfalso; omega
abbrev q_SM_local (dC : Nat → ClassId) (dI : Nat → Nat → Nat) (cI cJ : ClassId) (a : Nat → Nat) (he dp co li op wd tl lc fo : Int) (sf lf nf : Nat → Int32) (x1 : Int32) : Outcome → State → Prop := fun o t => (∀ v, o = .returned v → ((∃ (z : Int32), v = some (.int z) ∧ okC he dp co li op wd tl lc fo sf lf nf ∧ (0 ≤ z.toInt) ∧ (z.toInt ≤ 65535) ∧ (0 ≤ x1.toInt) ∧ (x1.toInt ≤ 15) ∧ sh_I (dC, dI) vcl cI cJ (gsC a he dp co li op wd tl lc fo sf lf nf) t.heap))) ∧ (∀ x, o = .threw x → ((ta_Ex "java/lang/IndexOutOfBoundsException" x t ∧ okC he dp co li op wd tl lc fo sf lf nf ∧ sh_I (dC, dI) vcl cI cJ (gsC a he dp co li op wd tl lc fo sf lf nf) t.heap)))
def rm_SM_local : Room := { frames := 7, cells := 1, slots := 6, locals := 130 }
set_option maxHeartbeats 4000000 in
set_option maxRecDepth 100000 in
theorem c_SM_local (l : Launch) (hfl : l.flags = pinnedFlags ++ [noTraceFlag]) (dC : Nat → ClassId) (dI : Nat → Nat → Nat) (cI cJ : ClassId) (a : Nat → Nat) (sz : Nat) (he dp co li op wd tl lc fo : Int) (sf lf nf : Nat → Int32) (x1 : Int32) (hok : okC he dp co li op wd tl lc fo sf lf nf) : tz_Met l ⟨"StoryMachine", "local", "(I)I"⟩ tw_tbl rm_SM_local (tzP (dC, dI) vcl cI cJ (gsC a he dp co li op wd tl lc fo sf lf nf) a (adC a) [.ref (a 0), .int x1] sz) (tq_Q (q_SM_local dC dI cI cJ a he dp co li op wd tl lc fo sf lf nf x1) (ga (adC a) sz)) 0 0 1 6 (ga (adC a) sz) := by
  refine tz_ofW (cc := prog_1_method_12_code) (maxL := 2) (ret := (some .int)) (by decide) (tx_isM mw_1051) ?_
  intro p e s m args below meth c s₁ B hml hv
  obtain ⟨rfl, hsz, hI0, hK, hst0⟩ := hv
  have hx := B.exec
  have hb := B.bytes
  have hr := B.returns
  have hts := atoms_spec (ws := tw_tbl) B.pre
  have hown : s.vm.findClass "StoryMachine" = some m.cls := findClass_of_methodNamed B.named
  have hlocks := B.notSynchronized
  subst hsz
  have hst := fun (H : Heap) (locs : List Loc) (hS : va_S (ga (adC a) s.heap.size) s.heap H locs) (U : State) (hU : U.heap = H) (hW : s.WarmedH U.vm) => zS_all adC_map hI0 hst0 hS hU hW
  have hAC : ∀ q ∈ adC a, ga (adC a) s.heap.size q := fun q h => Or.inl h
  have hA0 : ∀ q, s.heap.size ≤ q → ga (adC a) s.heap.size q := fun q h => Or.inr h
  have hI : sI (dC, dI) vcl cI cJ (gsC a he dp co li op wd tl lc fo sf lf nf) (ga (adC a) s.heap.size) s.heap s.heap [] := ⟨hI0, va_S.rf⟩
  clear hI0 hst0
  have hl := lv_entry ([.ref (a 0), .int x1]) (n := 2) (Nat.le_of_ble_eq_true rfl)
  rw [lg_entry_eq]
  generalize (lg_sl ([.ref (a 0), .int x1]) ++ List.replicate (2 - (lg_sl ([.ref (a 0), .int x1])).length) Slot.unset).toArray = ls at hl ⊢
  have hl : lv_has ls 2 [(0, .ref (a 0)), (1, .int x1)] := hl
  generalize hZ : tz_MQ below (tq_Q (q_SM_local dC dI cI cJ a he dp co li op wd tl lc fo sf lf nf x1) (ga (adC a) s.heap.size)) ([.ref (a 0), .int x1] : List Value).toArray s 0 0 1 6 (ga (adC a) s.heap.size) = Z
  obtain ⟨A, hAe⟩ : ∃ A, A = ga (adC a) s.heap.size := ⟨_, rfl⟩
  rw [← hAe] at hst hAC hA0 hI hZ
  refine sv_start hI (fun H locs hI => ?_)
  obtain ⟨⟨o1, o2⟩, ⟨o3, o4⟩, ⟨o5, o6⟩, ⟨o7, o8⟩, ⟨o9, o10⟩, ⟨o11, o12⟩, ⟨o13, o14⟩, ⟨o15, o16⟩, ⟨o17, o18⟩, o19, -, -⟩ := id hok
  have gx1 := sn_rng x1
  have j10 : ∀ (H : Heap) (locs : List Loc) (ls : Array Slot), sI (dC, dI) vcl cI cJ (gsC a he dp co li op wd tl lc fo sf lf nf) A s.heap H locs → okC he dp co li op wd tl lc fo sf lf nf → lv_has ls 2 [(0, .ref (a 0)), (1, .int x1)] → W p l e (headSpec tw_tbl rm_SM_local).room s m ([.ref (a 0), .int x1] : List Value).toArray below meth c H locs 0 0 Z (F0 m 10 ls []) := by
    intro H locs ls hI hok hl
    obtain ⟨⟨o20, o21⟩, ⟨o22, o23⟩, ⟨o24, o25⟩, ⟨o26, o27⟩, ⟨o28, o29⟩, ⟨o30, o31⟩, ⟨o32, o33⟩, ⟨o34, o35⟩, ⟨o36, o37⟩, o38, -, -⟩ := id hok
    refine W.widen (k := 0) (n := 0) (Nat.le_of_ble_eq_true rfl) (Nat.le_of_ble_eq_true rfl) ?_
    subst hZ
    exact tz_thrown (tth_SM_IndexOutOfBoundsException hx hb hfl hown hts (fun U hU hW => (hst _ _ hI.2 U hU hW).1) (by rw [hml]; exact hl.1) d_SM_local_10 d_SM_local_13 d_SM_local_14 d_SM_local_17 (tx_noH B (hts _ mw_1051) _) (Nat.le_of_ble_eq_true rfl) (Nat.le_of_ble_eq_true rfl) (Nat.le_of_ble_eq_true rfl) (Nat.le_of_ble_eq_true rfl) (fun t ce hW hz hk hce hcl hvm => ⟨⟨⟨fun v9 hv9 => (by cases hv9), fun x9 hx9 => by cases hx9; exact (⟨⟨ce, hce, hcl, hvm⟩, hok, sh_kept hI.1 hk⟩)⟩, ta_thrown hI.2 hz hk⟩, _, rfl⟩) hI.2.2.2 hlocks)
  refine lv_iload_n hx hb d_SM_local_0 rfl (lv_at hl 1 rfl) ?_
  refine sn_if_lt (tgt := 10) hx hb d_SM_local_1 (by decide) (fun b39 => ?_) (fun b39 => ?_)
  · exact j10 _ _ _  hI hok (lv_sub hl [0, 1] rfl)
  · refine lv_iload_n hx hb d_SM_local_4 rfl (lv_at hl 1 rfl) ?_
    refine sn_bipush hx hb d_SM_local_5 (by decide) (fun z40 hz40 => ?_)
    refine sn_icmp_le (tgt := 18) hx hb d_SM_local_7 (by decide) (fun b41 => ?_) (fun b41 => ?_)
    · refine lv_iload_n hx hb d_SM_local_18 rfl (lv_at hl 1 rfl) ?_
      refine sn_if_ne (tgt := 30) hx hb d_SM_local_19 (by decide) (fun b42 => ?_) (fun b42 => ?_)
      · refine lv_iload_n hx hb d_SM_local_30 rfl (lv_at hl 1 rfl) ?_
        refine lv_aload_n hx hb d_SM_local_31 rfl (lv_at hl 0 rfl) ?_
        refine sv_getr (C := "StoryMachine") (T := T_SM) (N := 5) hx hb hts in_SM hown hK hI 0 kC_0 rfl 2 (by decide) (hts _ mw_312) rfl d_SM_local_32 ?_
        refine tz_call (A1 := ga (adC a) H.size) (tz_runV (C := "StoryMachine$Routines") (As := []) (rest := [.int x1]) ⟨hx, hb, hml, hown, hts⟩ (c_Ro_localCount l hfl dC dI cI cJ a H.size he dp co li op wd tl lc fo sf lf nf  hok) (tx_cb (n := 0) hts rfl rfl ⟨Nat.le_of_ble_eq_true rfl, Nat.le_of_ble_eq_true rfl⟩ (tx_code.of (hts _ mw_1055)) (hts _ mw_4) (by decide +kernel) (hts _ mw_1052)) (hts _ mw_1053) (hts _ mw_1054) ⟨tz_blind, sv_recv (q0 := 3) hts in_Ro hK hI kC_3 rfl, fun U hU hW => ⟨rfl, by rw [hU], by rw [hU]; exact hI.1, va_K.moved hW.alike hK, hst _ _ hI.2 U hU hW⟩⟩ rfl rfl hl.1 rfl (lv_room (Nat.le_of_ble_eq_true rfl)) d_SM_local_35 ⟨Nat.le_of_ble_eq_true rfl, Nat.le_of_ble_eq_true rfl⟩) hI.2 (fun q _ h => ga_sub hAC hA0 hI.2 q h) (ga_sub hAC hA0 hI.2) (fun v t H1 locs1 ht hWt hpost _ _ hS => ?_) (fun x t H1 locs1 ht hWt hpost _ _ hS => (hpost.2 x rfl).elim)
        rcases hpost.1 _ rfl with ⟨z43, hv, c44, c44_0, c44_1, c44_2, hI1⟩
        cases hv
        have hI : sI (dC, dI) vcl cI cJ (gsC a he dp co li op wd tl lc fo sf lf nf) A s.heap H1 locs1 := ⟨by rw [← ht]; exact hI1, hS⟩
        clear hpost hI1 hS ht hWt
        revert hI; generalize H1 = H; generalize locs1 = locs; intro hI
        refine sn_icmp_gt (tgt := 52) hx hb d_SM_local_38 (by decide) (fun b45 => ?_) (fun b45 => ?_)
        · refine sn_iconst hx hb d_SM_local_52 (by decide) (fun z46 hz46 => ?_)
          subst hZ
          exact tz_ret (W.iret (v := z46) hx hb hr (fun t ht hW => ⟨⟨fun v9 hv9 => by cases hv9; exact (⟨z46, rfl, c44, by omega, by omega, by omega, by omega, by rw [ht]; exact hI.1⟩), fun x9 hx9 => (by cases hx9)⟩, hI.2.F ht⟩) hI.2.2.2 d_SM_local_53)
        · refine lv_aload_n hx hb d_SM_local_41 rfl (lv_at hl 0 rfl) ?_
          refine sv_getr (C := "StoryMachine") (T := T_SM) (N := 5) hx hb hts in_SM hown hK hI 0 kC_0 rfl 2 (by decide) (hts _ mw_312) rfl d_SM_local_42 ?_
          refine lv_iload_n hx hb d_SM_local_45 rfl (lv_at hl 1 rfl) ?_
          refine tz_call (A1 := ga (adC a) H.size) (tz_runV (C := "StoryMachine$Routines") (As := [.int x1]) (rest := []) ⟨hx, hb, hml, hown, hts⟩ (c_Ro_localValuex l hfl dC dI cI cJ a H.size he dp co li op wd tl lc fo sf lf nf x1 c44 (by omega) (by omega) (by omega)) (tx_cb (n := 1) hts rfl rfl ⟨Nat.le_of_ble_eq_true rfl, Nat.le_of_ble_eq_true rfl⟩ (tx_code.of (hts _ mw_553)) (hts _ mw_4) (by decide +kernel) (hts _ mw_1056)) (hts _ mw_551) (hts _ mw_552) ⟨tz_blind, sv_recv (q0 := 3) hts in_Ro hK hI kC_3 rfl, fun U hU hW => ⟨rfl, by rw [hU], by rw [hU]; exact hI.1, va_K.moved hW.alike hK, hst _ _ hI.2 U hU hW⟩⟩ rfl rfl hl.1 rfl (lv_room (Nat.le_of_ble_eq_true rfl)) d_SM_local_46 ⟨Nat.le_of_ble_eq_true rfl, Nat.le_of_ble_eq_true rfl⟩) hI.2 (fun q _ h => ga_sub hAC hA0 hI.2 q h) (ga_sub hAC hA0 hI.2) (fun v t H1 locs1 ht hWt hpost _ _ hS => ?_) (fun x t H1 locs1 ht hWt hpost _ _ hS => (hpost.2 x rfl).elim)
          rcases hpost.1 _ rfl with ⟨z47, hv, c48, c48_0, c48_1, hI1⟩
          cases hv
          have hI : sI (dC, dI) vcl cI cJ (gsC a he dp co li op wd tl lc fo sf lf nf) A s.heap H1 locs1 := ⟨by rw [← ht]; exact hI1, hS⟩
          clear hpost hI1 hS ht hWt
          revert hI; generalize H1 = H; generalize locs1 = locs; intro hI
          refine lv_goto (tgt := 53) hx hb d_SM_local_49 (by decide) ?_
          subst hZ
          exact tz_ret (W.iret (v := z47) hx hb hr (fun t ht hW => ⟨⟨fun v9 hv9 => by cases hv9; exact (⟨z47, rfl, c48, by omega, by omega, by omega, by omega, by rw [ht]; exact hI.1⟩), fun x9 hx9 => (by cases hx9)⟩, hI.2.F ht⟩) hI.2.2.2 d_SM_local_53)
      · refine lv_aload_n hx hb d_SM_local_22 rfl (lv_at hl 0 rfl) ?_
        refine sv_getr (C := "StoryMachine") (T := T_SM) (N := 5) hx hb hts in_SM hown hK hI 0 kC_0 rfl 2 (by decide) (hts _ mw_312) rfl d_SM_local_23 ?_
        refine tz_call (A1 := ga (adC a) H.size) (tz_runV (C := "StoryMachine$Routines") (As := []) (rest := []) ⟨hx, hb, hml, hown, hts⟩ (c_Ro_localCount l hfl dC dI cI cJ a H.size he dp co li op wd tl lc fo sf lf nf  hok) (tx_cb (n := 0) hts rfl rfl ⟨Nat.le_of_ble_eq_true rfl, Nat.le_of_ble_eq_true rfl⟩ (tx_code.of (hts _ mw_1055)) (hts _ mw_4) (by decide +kernel) (hts _ mw_1052)) (hts _ mw_1053) (hts _ mw_1054) ⟨tz_blind, sv_recv (q0 := 3) hts in_Ro hK hI kC_3 rfl, fun U hU hW => ⟨rfl, by rw [hU], by rw [hU]; exact hI.1, va_K.moved hW.alike hK, hst _ _ hI.2 U hU hW⟩⟩ rfl rfl hl.1 rfl (lv_room (Nat.le_of_ble_eq_true rfl)) d_SM_local_26 ⟨Nat.le_of_ble_eq_true rfl, Nat.le_of_ble_eq_true rfl⟩) hI.2 (fun q _ h => ga_sub hAC hA0 hI.2 q h) (ga_sub hAC hA0 hI.2) (fun v t H1 locs1 ht hWt hpost _ _ hS => ?_) (fun x t H1 locs1 ht hWt hpost _ _ hS => (hpost.2 x rfl).elim)
        rcases hpost.1 _ rfl with ⟨z49, hv, c50, c50_0, c50_1, c50_2, hI1⟩
        cases hv
        have hI : sI (dC, dI) vcl cI cJ (gsC a he dp co li op wd tl lc fo sf lf nf) A s.heap H1 locs1 := ⟨by rw [← ht]; exact hI1, hS⟩
        clear hpost hI1 hS ht hWt
        revert hI; generalize H1 = H; generalize locs1 = locs; intro hI
        subst hZ
        exact tz_ret (W.iret (v := z49) hx hb hr (fun t ht hW => ⟨⟨fun v9 hv9 => by cases hv9; exact (⟨z49, rfl, c50, by omega, by omega, by omega, by omega, by rw [ht]; exact hI.1⟩), fun x9 hx9 => (by cases hx9)⟩, hI.2.F ht⟩) hI.2.2.2 d_SM_local_29)
    · exact j10 _ _ _  hI hok (lv_sub hl [0, 1] rfl)
abbrev q_SM_routines (dC : Nat → ClassId) (dI : Nat → Nat → Nat) (cI cJ : ClassId) (a : Nat → Nat) (he dp co li op wd tl lc fo : Int) (sf lf nf : Nat → Int32) : Outcome → State → Prop := fun o t => (∀ v, o = .returned v → ((∃ (z : Int32), v = some (.int z) ∧ okC he dp co li op wd tl lc fo sf lf nf ∧ (0 ≤ z.toInt) ∧ (z.toInt ≤ 10) ∧ sh_I (dC, dI) vcl cI cJ (gsC a he dp co li op wd tl lc fo sf lf nf) t.heap))) ∧ (∀ x, o = .threw x → (False))
def rm_SM_routines : Room := { frames := 0, cells := 0, slots := 0, locals := 0 }
set_option maxHeartbeats 4000000 in
set_option maxRecDepth 100000 in
theorem c_SM_routines (l : Launch) (hfl : l.flags = pinnedFlags ++ [noTraceFlag]) (dC : Nat → ClassId) (dI : Nat → Nat → Nat) (cI cJ : ClassId) (a : Nat → Nat) (sz : Nat) (he dp co li op wd tl lc fo : Int) (sf lf nf : Nat → Int32) (hok : okC he dp co li op wd tl lc fo sf lf nf) : tz_Met l ⟨"StoryMachine", "routines", "()I"⟩ tw_tbl rm_SM_routines (tzP (dC, dI) vcl cI cJ (gsC a he dp co li op wd tl lc fo sf lf nf) a (adC a) [.ref (a 0)] sz) (tq_Q (q_SM_routines dC dI cI cJ a he dp co li op wd tl lc fo sf lf nf) (ga (adC a) sz)) 0 0 0 0 (ga (adC a) sz) := by
  refine tz_ofW (cc := prog_1_method_13_code) (maxL := 1) (ret := (some .int)) (by decide) (tx_isM mw_345) ?_
  intro p e s m args below meth c s₁ B hml hv
  obtain ⟨rfl, hsz, hI0, hK, hst0⟩ := hv
  have hx := B.exec
  have hb := B.bytes
  have hr := B.returns
  have hts := atoms_spec (ws := tw_tbl) B.pre
  have hown : s.vm.findClass "StoryMachine" = some m.cls := findClass_of_methodNamed B.named
  have hlocks := B.notSynchronized
  subst hsz
  have hst := fun (H : Heap) (locs : List Loc) (hS : va_S (ga (adC a) s.heap.size) s.heap H locs) (U : State) (hU : U.heap = H) (hW : s.WarmedH U.vm) => zS_all adC_map hI0 hst0 hS hU hW
  have hAC : ∀ q ∈ adC a, ga (adC a) s.heap.size q := fun q h => Or.inl h
  have hA0 : ∀ q, s.heap.size ≤ q → ga (adC a) s.heap.size q := fun q h => Or.inr h
  have hI : sI (dC, dI) vcl cI cJ (gsC a he dp co li op wd tl lc fo sf lf nf) (ga (adC a) s.heap.size) s.heap s.heap [] := ⟨hI0, va_S.rf⟩
  clear hI0 hst0
  have hl := lv_entry ([.ref (a 0)]) (n := 1) (Nat.le_of_ble_eq_true rfl)
  rw [lg_entry_eq]
  generalize (lg_sl ([.ref (a 0)]) ++ List.replicate (1 - (lg_sl ([.ref (a 0)])).length) Slot.unset).toArray = ls at hl ⊢
  have hl : lv_has ls 1 [(0, .ref (a 0))] := hl
  generalize hZ : tz_MQ below (tq_Q (q_SM_routines dC dI cI cJ a he dp co li op wd tl lc fo sf lf nf) (ga (adC a) s.heap.size)) ([.ref (a 0)] : List Value).toArray s 0 0 0 0 (ga (adC a) s.heap.size) = Z
  obtain ⟨A, hAe⟩ : ∃ A, A = ga (adC a) s.heap.size := ⟨_, rfl⟩
  rw [← hAe] at hst hAC hA0 hI hZ
  refine sv_start hI (fun H locs hI => ?_)
  obtain ⟨⟨o1, o2⟩, ⟨o3, o4⟩, ⟨o5, o6⟩, ⟨o7, o8⟩, ⟨o9, o10⟩, ⟨o11, o12⟩, ⟨o13, o14⟩, ⟨o15, o16⟩, ⟨o17, o18⟩, o19, -, -⟩ := id hok
  refine lv_aload_n hx hb d_SM_routines_0 rfl (lv_at hl 0 rfl) ?_
  refine sv_getr (C := "StoryMachine") (T := T_SM) (N := 5) hx hb hts in_SM hown hK hI 0 kC_0 rfl 2 (by decide) (hts _ mw_312) rfl d_SM_routines_1 ?_
  refine sv_gete (C := "StoryMachine$Routines") (T := T_Ro) (N := 8) hx hb hts in_Ro hown hK hI 3 kC_3 rfl 2 (by decide) (hts _ mw_85) rfl d_SM_routines_4 (fun z20 hz20 => ?_)
  subst hZ
  exact tz_ret (W.iret (v := z20) hx hb hr (fun t ht hW => ⟨⟨fun v9 hv9 => by cases hv9; exact (⟨z20, rfl, hok, by omega, by omega, by rw [ht]; exact hI.1⟩), fun x9 hx9 => (by cases hx9)⟩, hI.2.F ht⟩) hI.2.2.2 d_SM_routines_7)
abbrev q_Mo_isFew (dC : Nat → ClassId) (dI : Nat → Nat → Nat) (cI cJ : ClassId) (a : Nat → Nat) (th tr dp zi co sh lt ts : Int) (mf : Nat → Int32) (x0 : Int32) : Outcome → State → Prop := fun o t => (∀ v, o = .returned v → ((∃ (z : Int32), v = some (.int z) ∧ okM th tr dp zi co sh lt ts mf ∧ (0 ≤ z.toInt) ∧ (z.toInt ≤ 0) ∧ (x0.toInt < 1 ∨ 8 < x0.toInt) ∧ sh_I (dC, dI) vcl cI cJ (gsM a th tr dp zi co sh lt ts mf) t.heap) ∨ (∃ (z : Int32), v = some (.int z) ∧ okM th tr dp zi co sh lt ts mf ∧ (1 ≤ z.toInt) ∧ (z.toInt ≤ 1) ∧ (1 ≤ x0.toInt) ∧ (x0.toInt ≤ 8) ∧ sh_I (dC, dI) vcl cI cJ (gsM a th tr dp zi co sh lt ts mf) t.heap))) ∧ (∀ x, o = .threw x → (False))
def rm_Mo_isFew : Room := { frames := 0, cells := 0, slots := 0, locals := 0 }
set_option maxHeartbeats 4000000 in
set_option maxRecDepth 100000 in
theorem c_Mo_isFew (l : Launch) (hfl : l.flags = pinnedFlags ++ [noTraceFlag]) (dC : Nat → ClassId) (dI : Nat → Nat → Nat) (cI cJ : ClassId) (a : Nat → Nat) (sz : Nat) (th tr dp zi co sh lt ts : Int) (mf : Nat → Int32) (x0 : Int32) (hok : okM th tr dp zi co sh lt ts mf) : tz_Met l ⟨"StoryMachineModel", "isFew", "(I)Z"⟩ tw_tbl rm_Mo_isFew (tzP (dC, dI) vcl cI cJ (gsM a th tr dp zi co sh lt ts mf) a (adM a) [.int x0] sz) (tq_Q (q_Mo_isFew dC dI cI cJ a th tr dp zi co sh lt ts mf x0) (ga (adM a) sz)) 0 0 0 0 (ga (adM a) sz) := by
  refine tz_ofW (cc := prog_13_method_73_code) (maxL := 1) (ret := (some .boolean)) (by decide) (tx_isM mw_1503) ?_
  intro p e s m args below meth c s₁ B hml hv
  obtain ⟨rfl, hsz, hI0, hK, hst0⟩ := hv
  have hx := B.exec
  have hb := B.bytes
  have hr := B.returns
  have hts := atoms_spec (ws := tw_tbl) B.pre
  have hown : s.vm.findClass "StoryMachineModel" = some m.cls := findClass_of_methodNamed B.named
  have hlocks := B.notSynchronized
  subst hsz
  have hst := fun (H : Heap) (locs : List Loc) (hS : va_S (ga (adM a) s.heap.size) s.heap H locs) (U : State) (hU : U.heap = H) (hW : s.WarmedH U.vm) => zS_all adM_map hI0 hst0 hS hU hW
  have hAC : ∀ q ∈ adM a, ga (adM a) s.heap.size q := fun q h => Or.inl h
  have hA0 : ∀ q, s.heap.size ≤ q → ga (adM a) s.heap.size q := fun q h => Or.inr h
  have hI : sI (dC, dI) vcl cI cJ (gsM a th tr dp zi co sh lt ts mf) (ga (adM a) s.heap.size) s.heap s.heap [] := ⟨hI0, va_S.rf⟩
  clear hI0 hst0
  have hl := lv_entry ([.int x0]) (n := 1) (Nat.le_of_ble_eq_true rfl)
  rw [lg_entry_eq]
  generalize (lg_sl ([.int x0]) ++ List.replicate (1 - (lg_sl ([.int x0])).length) Slot.unset).toArray = ls at hl ⊢
  have hl : lv_has ls 1 [(0, .int x0)] := hl
  generalize hZ : tz_MQ below (tq_Q (q_Mo_isFew dC dI cI cJ a th tr dp zi co sh lt ts mf x0) (ga (adM a) s.heap.size)) ([.int x0] : List Value).toArray s 0 0 0 0 (ga (adM a) s.heap.size) = Z
  obtain ⟨A, hAe⟩ : ∃ A, A = ga (adM a) s.heap.size := ⟨_, rfl⟩
  rw [← hAe] at hst hAC hA0 hI hZ
  refine sv_start hI (fun H locs hI => ?_)
  obtain ⟨⟨o1, o2⟩, ⟨o3, o4⟩, ⟨o5, o6⟩, ⟨o7, o8⟩, ⟨o9, o10⟩, ⟨o11, o12⟩, ⟨o13, o14⟩, ⟨o15, o16⟩, -⟩ := id hok
  have gx0 := sn_rng x0
  refine lv_iload_n hx hb d_Mo_isFew_0 rfl (lv_at hl 0 rfl) ?_
  refine sn_iconst hx hb d_Mo_isFew_1 (by decide) (fun z17 hz17 => ?_)
  refine sn_icmp_lt (tgt := 15) hx hb d_Mo_isFew_2 (by decide) (fun b18 => ?_) (fun b18 => ?_)
  · refine sn_iconst hx hb d_Mo_isFew_15 (by decide) (fun z19 hz19 => ?_)
    subst hZ
    exact tz_ret (W.zret (v := z19) hx hb hr (sn_bool (by omega) (by omega)).1 (fun t ht hW => ⟨⟨fun v9 hv9 => by cases hv9; exact (Or.inl ⟨z19, rfl, hok, by omega, by omega, by omega, by rw [ht]; exact hI.1⟩), fun x9 hx9 => (by cases hx9)⟩, hI.2.F ht⟩) hI.2.2.2 d_Mo_isFew_16)
  · refine lv_iload_n hx hb d_Mo_isFew_5 rfl (lv_at hl 0 rfl) ?_
    refine sn_bipush hx hb d_Mo_isFew_6 (by decide) (fun z20 hz20 => ?_)
    refine sn_icmp_gt (tgt := 15) hx hb d_Mo_isFew_8 (by decide) (fun b21 => ?_) (fun b21 => ?_)
    · refine sn_iconst hx hb d_Mo_isFew_15 (by decide) (fun z22 hz22 => ?_)
      subst hZ
      exact tz_ret (W.zret (v := z22) hx hb hr (sn_bool (by omega) (by omega)).1 (fun t ht hW => ⟨⟨fun v9 hv9 => by cases hv9; exact (Or.inl ⟨z22, rfl, hok, by omega, by omega, by omega, by rw [ht]; exact hI.1⟩), fun x9 hx9 => (by cases hx9)⟩, hI.2.F ht⟩) hI.2.2.2 d_Mo_isFew_16)
    · refine sn_iconst hx hb d_Mo_isFew_11 (by decide) (fun z23 hz23 => ?_)
      refine lv_goto (tgt := 16) hx hb d_Mo_isFew_12 (by decide) ?_
      subst hZ
      exact tz_ret (W.zret (v := z23) hx hb hr (sn_bool (by omega) (by omega)).1 (fun t ht hW => ⟨⟨fun v9 hv9 => by cases hv9; exact (Or.inr (⟨z23, rfl, hok, by omega, by omega, by omega, by omega, by rw [ht]; exact hI.1⟩)), fun x9 hx9 => (by cases hx9)⟩, hI.2.F ht⟩) hI.2.2.2 d_Mo_isFew_16)
