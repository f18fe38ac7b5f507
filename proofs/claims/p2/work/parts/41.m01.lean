abbrev q_Ro_copyFrom_27 (dC : Nat → ClassId) (dI : Nat → Nat → Nat) (cI cJ : ClassId) (a : Nat → Nat) (he dp co li op wd tl lc fo : Int) (sf lf nf : Nat → Int32) : Outcome → State → Prop := fun o t => (∀ v, o = .returned v → ((v = none ∧ okC he dp co li op wd tl lc fo sf lf nf ∧ sh_I (dC, dI) vcl cI cJ (gsC a he dp co li op wd tl lc fo sf lf nf) t.heap))) ∧ (∀ x, o = .threw x → (False))
def rm_Ro_copyFrom_27 : Room := { frames := 1, cells := 0, slots := 0, locals := 60 }
set_option maxHeartbeats 4000000 in
set_option maxRecDepth 100000 in
theorem c_Ro_copyFrom_27 (l : Launch) (hfl : l.flags = pinnedFlags ++ [noTraceFlag]) (dC : Nat → ClassId) (dI : Nat → Nat → Nat) (cI cJ : ClassId) (a : Nat → Nat) (sz : Nat) (he dp co li op wd tl lc fo : Int) (sf lf nf : Nat → Int32) (hok : okC he dp co li op wd tl lc fo sf lf nf) : tz_Met l ⟨"StoryMachine$Routines", "copyFrom", "(LStoryMachine$Routines;)V"⟩ tw_tbl rm_Ro_copyFrom_27 (tzP (dC, dI) vcl cI cJ (gsC a he dp co li op wd tl lc fo sf lf nf) a (adC a) [.ref (a 27), .ref (a 3)] sz) (tq_Q (q_Ro_copyFrom_27 dC dI cI cJ a he dp co li op wd tl lc fo sf lf nf) (ga (adC a) sz)) 0 0 0 0 (ga (adC a) sz) := by
  refine tz_ofW (cc := prog_9_method_15_code) (maxL := 2) (ret := none) (by decide) (tx_isM mw_721) ?_
  intro p e s m args below meth c s₁ B hml hv
  obtain ⟨rfl, hsz, hI0, hK, hst0⟩ := hv
  have hx := B.exec
  have hb := B.bytes
  have hr := B.returns
  have hts := atoms_spec (ws := tw_tbl) B.pre
  have hown : s.vm.findClass "StoryMachine$Routines" = some m.cls := findClass_of_methodNamed B.named
  have hlocks := B.notSynchronized
  subst hsz
  have hst := fun (H : Heap) (locs : List Loc) (hS : va_S (ga (adC a) s.heap.size) s.heap H locs) (U : State) (hU : U.heap = H) (hW : s.WarmedH U.vm) => zS_all adC_map hI0 hst0 hS hU hW
  have hAC : ∀ q ∈ adC a, ga (adC a) s.heap.size q := fun q h => Or.inl h
  have hA0 : ∀ q, s.heap.size ≤ q → ga (adC a) s.heap.size q := fun q h => Or.inr h
  have hI : sI (dC, dI) vcl cI cJ (gsC a he dp co li op wd tl lc fo sf lf nf) (ga (adC a) s.heap.size) s.heap s.heap [] := ⟨hI0, va_S.rf⟩
  clear hI0 hst0
  have hl := lv_entry ([.ref (a 27), .ref (a 3)]) (n := 2) (Nat.le_of_ble_eq_true rfl)
  rw [lg_entry_eq]
  generalize (lg_sl ([.ref (a 27), .ref (a 3)]) ++ List.replicate (2 - (lg_sl ([.ref (a 27), .ref (a 3)])).length) Slot.unset).toArray = ls at hl ⊢
  have hl : lv_has ls 2 [(0, .ref (a 27)), (1, .ref (a 3))] := hl
  generalize hZ : tz_MQ below (tq_Q (q_Ro_copyFrom_27 dC dI cI cJ a he dp co li op wd tl lc fo sf lf nf) (ga (adC a) s.heap.size)) ([.ref (a 27), .ref (a 3)] : List Value).toArray s 0 0 0 0 (ga (adC a) s.heap.size) = Z
  obtain ⟨A, hAe⟩ : ∃ A, A = ga (adC a) s.heap.size := ⟨_, rfl⟩
  rw [← hAe] at hst hAC hA0 hI hZ
  refine sv_start hI (fun H locs hI => ?_)
  obtain ⟨⟨o1, o2⟩, ⟨o3, o4⟩, ⟨o5, o6⟩, ⟨o7, o8⟩, ⟨o9, o10⟩, ⟨o11, o12⟩, ⟨o13, o14⟩, ⟨o15, o16⟩, ⟨o17, o18⟩, o19, -, -⟩ := id hok
  refine lv_aload_n hx hb d_Ro_copyFrom_0 rfl (lv_at hl 0 rfl) ?_
  refine lv_aload_n hx hb d_Ro_copyFrom_1 rfl (lv_at hl 1 rfl) ?_
  refine sv_gete (C := "StoryMachine$Routines") (T := T_Ro) (N := 8) hx hb hts in_Ro hown hK hI 3 kC_3 rfl 1 (by decide) (hts _ mw_82) rfl d_Ro_copyFrom_2 (fun z20 hz20 => ?_)
  refine sv_put (C := "StoryMachine$Routines") (T := T_Ro) (N := 8) (ty := .int) hx hb hts in_Ro t_Ro tk_Ro nm_Ro hown hK (sh_in adC_map hAC) hI 27 kC_27 rfl 1 (by decide) (hts _ mw_82) rfl (by decide +kernel) rfl rfl (Nat.le_of_ble_eq_true rfl) (by omega) (by omega) pC_27_1 d_Ro_copyFrom_5 (fun H locs hI => ?_)
  refine lv_aload_n hx hb d_Ro_copyFrom_8 rfl (lv_at hl 0 rfl) ?_
  refine lv_aload_n hx hb d_Ro_copyFrom_9 rfl (lv_at hl 1 rfl) ?_
  refine sv_gete (C := "StoryMachine$Routines") (T := T_Ro) (N := 8) hx hb hts in_Ro hown hK hI 3 kC_3 rfl 2 (by decide) (hts _ mw_84) rfl d_Ro_copyFrom_10 (fun z21 hz21 => ?_)
  refine sv_put (C := "StoryMachine$Routines") (T := T_Ro) (N := 8) (ty := .int) hx hb hts in_Ro t_Ro tk_Ro nm_Ro hown hK (sh_in adC_map hAC) hI 27 kC_27 rfl 2 (by decide) (hts _ mw_84) rfl (by decide +kernel) rfl rfl (Nat.le_of_ble_eq_true rfl) (by omega) (by omega) pC_27_2 d_Ro_copyFrom_13 (fun H locs hI => ?_)
  refine lv_aload_n hx hb d_Ro_copyFrom_16 rfl (lv_at hl 1 rfl) ?_
  refine sv_getr (C := "StoryMachine$Routines") (T := T_Ro) (N := 8) hx hb hts in_Ro hown hK hI 3 kC_3 rfl 0 (by decide) (hts _ mw_80) rfl d_Ro_copyFrom_17 ?_
  refine sn_iconst hx hb d_Ro_copyFrom_20 (by decide) (fun z22 hz22 => ?_)
  refine lv_aload_n hx hb d_Ro_copyFrom_21 rfl (lv_at hl 0 rfl) ?_
  refine sv_getr (C := "StoryMachine$Routines") (T := T_Ro) (N := 8) hx hb hts in_Ro hown hK hI 27 kC_27 rfl 0 (by decide) (hts _ mw_80) rfl d_Ro_copyFrom_22 ?_
  refine sn_iconst hx hb d_Ro_copyFrom_25 (by decide) (fun z23 hz23 => ?_)
  refine lv_aload_n hx hb d_Ro_copyFrom_26 rfl (lv_at hl 0 rfl) ?_
  refine sv_getr (C := "StoryMachine$Routines") (T := T_Ro) (N := 8) hx hb hts in_Ro hown hK hI 27 kC_27 rfl 0 (by decide) (hts _ mw_80) rfl d_Ro_copyFrom_27 ?_
  refine sv_alen hx hb hK hI 29 kC_29 (by decide) d_Ro_copyFrom_30 (fun z24 hz24 => ?_)
  refine sj_copy hx hb (by rw [hml]; exact hl.1.symm) hown (hts _ mw_722) (hts _ mw_717) (hts _ mw_716) (hts _ mw_23) hK (sh_in adC_map hAC) hI 9 29 (lo := 0) (hi := 65535) kC_9 kC_29 (fun _ h => h) (fun _ h => h) (by omega) (by omega) (by omega) (by omega) (by omega) (Nat.le_of_ble_eq_true rfl) (Nat.le_of_ble_eq_true rfl) pC_29 d_Ro_copyFrom_31 (fun H locs hI => ?_)
  refine lv_aload_n hx hb d_Ro_copyFrom_34 rfl (lv_at hl 1 rfl) ?_
  refine sv_getr (C := "StoryMachine$Routines") (T := T_Ro) (N := 8) hx hb hts in_Ro hown hK hI 3 kC_3 rfl 3 (by decide) (hts _ mw_86) rfl d_Ro_copyFrom_35 ?_
  refine sn_iconst hx hb d_Ro_copyFrom_38 (by decide) (fun z25 hz25 => ?_)
  refine lv_aload_n hx hb d_Ro_copyFrom_39 rfl (lv_at hl 0 rfl) ?_
  refine sv_getr (C := "StoryMachine$Routines") (T := T_Ro) (N := 8) hx hb hts in_Ro hown hK hI 27 kC_27 rfl 3 (by decide) (hts _ mw_86) rfl d_Ro_copyFrom_40 ?_
  refine sn_iconst hx hb d_Ro_copyFrom_43 (by decide) (fun z26 hz26 => ?_)
  refine lv_aload_n hx hb d_Ro_copyFrom_44 rfl (lv_at hl 0 rfl) ?_
  refine sv_getr (C := "StoryMachine$Routines") (T := T_Ro) (N := 8) hx hb hts in_Ro hown hK hI 27 kC_27 rfl 3 (by decide) (hts _ mw_86) rfl d_Ro_copyFrom_45 ?_
  refine sv_alen hx hb hK hI 30 kC_30 (by decide) d_Ro_copyFrom_48 (fun z27 hz27 => ?_)
  refine sj_copy hx hb (by rw [hml]; exact hl.1.symm) hown (hts _ mw_722) (hts _ mw_717) (hts _ mw_716) (hts _ mw_23) hK (sh_in adC_map hAC) hI 10 30 (lo := 0) (hi := 48) kC_10 kC_30 (fun _ h => h) (fun _ h => h) (by omega) (by omega) (by omega) (by omega) (by omega) (Nat.le_of_ble_eq_true rfl) (Nat.le_of_ble_eq_true rfl) pC_30 d_Ro_copyFrom_49 (fun H locs hI => ?_)
  refine lv_aload_n hx hb d_Ro_copyFrom_52 rfl (lv_at hl 1 rfl) ?_
  refine sv_getr (C := "StoryMachine$Routines") (T := T_Ro) (N := 8) hx hb hts in_Ro hown hK hI 3 kC_3 rfl 4 (by decide) (hts _ mw_87) rfl d_Ro_copyFrom_53 ?_
  refine sn_iconst hx hb d_Ro_copyFrom_56 (by decide) (fun z28 hz28 => ?_)
  refine lv_aload_n hx hb d_Ro_copyFrom_57 rfl (lv_at hl 0 rfl) ?_
  refine sv_getr (C := "StoryMachine$Routines") (T := T_Ro) (N := 8) hx hb hts in_Ro hown hK hI 27 kC_27 rfl 4 (by decide) (hts _ mw_87) rfl d_Ro_copyFrom_58 ?_
  refine sn_iconst hx hb d_Ro_copyFrom_61 (by decide) (fun z29 hz29 => ?_)
  refine lv_aload_n hx hb d_Ro_copyFrom_62 rfl (lv_at hl 0 rfl) ?_
  refine sv_getr (C := "StoryMachine$Routines") (T := T_Ro) (N := 8) hx hb hts in_Ro hown hK hI 27 kC_27 rfl 4 (by decide) (hts _ mw_87) rfl d_Ro_copyFrom_63 ?_
  refine sv_alen hx hb hK hI 31 kC_31 (by decide) d_Ro_copyFrom_66 (fun z30 hz30 => ?_)
  refine sj_copy hx hb (by rw [hml]; exact hl.1.symm) hown (hts _ mw_722) (hts _ mw_717) (hts _ mw_716) (hts _ mw_23) hK (sh_in adC_map hAC) hI 11 31 (lo := (-2147483648)) (hi := 2147483647) kC_11 kC_31 (fun _ h => h) (fun _ h => h) (by omega) (by omega) (by omega) (by omega) (by omega) (Nat.le_of_ble_eq_true rfl) (Nat.le_of_ble_eq_true rfl) pC_31 d_Ro_copyFrom_67 (fun H locs hI => ?_)
  refine lv_aload_n hx hb d_Ro_copyFrom_70 rfl (lv_at hl 1 rfl) ?_
  refine sv_getr (C := "StoryMachine$Routines") (T := T_Ro) (N := 8) hx hb hts in_Ro hown hK hI 3 kC_3 rfl 5 (by decide) (hts _ mw_88) rfl d_Ro_copyFrom_71 ?_
  refine sn_iconst hx hb d_Ro_copyFrom_74 (by decide) (fun z31 hz31 => ?_)
  refine lv_aload_n hx hb d_Ro_copyFrom_75 rfl (lv_at hl 0 rfl) ?_
  refine sv_getr (C := "StoryMachine$Routines") (T := T_Ro) (N := 8) hx hb hts in_Ro hown hK hI 27 kC_27 rfl 5 (by decide) (hts _ mw_88) rfl d_Ro_copyFrom_76 ?_
  refine sn_iconst hx hb d_Ro_copyFrom_79 (by decide) (fun z32 hz32 => ?_)
  refine lv_aload_n hx hb d_Ro_copyFrom_80 rfl (lv_at hl 0 rfl) ?_
  refine sv_getr (C := "StoryMachine$Routines") (T := T_Ro) (N := 8) hx hb hts in_Ro hown hK hI 27 kC_27 rfl 5 (by decide) (hts _ mw_88) rfl d_Ro_copyFrom_81 ?_
  refine sv_alen hx hb hK hI 32 kC_32 (by decide) d_Ro_copyFrom_84 (fun z33 hz33 => ?_)
  refine sj_copy hx hb (by rw [hml]; exact hl.1.symm) hown (hts _ mw_722) (hts _ mw_717) (hts _ mw_716) (hts _ mw_23) hK (sh_in adC_map hAC) hI 12 32 (lo := (-2147483648)) (hi := 2147483647) kC_12 kC_32 (fun _ h => h) (fun _ h => h) (by omega) (by omega) (by omega) (by omega) (by omega) (Nat.le_of_ble_eq_true rfl) (Nat.le_of_ble_eq_true rfl) pC_32 d_Ro_copyFrom_85 (fun H locs hI => ?_)
  refine lv_aload_n hx hb d_Ro_copyFrom_88 rfl (lv_at hl 1 rfl) ?_
  refine sv_getr (C := "StoryMachine$Routines") (T := T_Ro) (N := 8) hx hb hts in_Ro hown hK hI 3 kC_3 rfl 6 (by decide) (hts _ mw_89) rfl d_Ro_copyFrom_89 ?_
  refine sn_iconst hx hb d_Ro_copyFrom_92 (by decide) (fun z34 hz34 => ?_)
  refine lv_aload_n hx hb d_Ro_copyFrom_93 rfl (lv_at hl 0 rfl) ?_
  refine sv_getr (C := "StoryMachine$Routines") (T := T_Ro) (N := 8) hx hb hts in_Ro hown hK hI 27 kC_27 rfl 6 (by decide) (hts _ mw_89) rfl d_Ro_copyFrom_94 ?_
  refine sn_iconst hx hb d_Ro_copyFrom_97 (by decide) (fun z35 hz35 => ?_)
  refine lv_aload_n hx hb d_Ro_copyFrom_98 rfl (lv_at hl 0 rfl) ?_
  refine sv_getr (C := "StoryMachine$Routines") (T := T_Ro) (N := 8) hx hb hts in_Ro hown hK hI 27 kC_27 rfl 6 (by decide) (hts _ mw_89) rfl d_Ro_copyFrom_99 ?_
  refine sv_alen hx hb hK hI 33 kC_33 (by decide) d_Ro_copyFrom_102 (fun z36 hz36 => ?_)
  refine sj_copy hx hb (by rw [hml]; exact hl.1.symm) hown (hts _ mw_722) (hts _ mw_717) (hts _ mw_716) (hts _ mw_23) hK (sh_in adC_map hAC) hI 13 33 (lo := 0) (hi := 15) kC_13 kC_33 (fun _ h => by rw [h]; exact hok.2.2.2.2.2.2.2.2.2.2.2) (fun _ h => h) (by omega) (by omega) (by omega) (by omega) (by omega) (Nat.le_of_ble_eq_true rfl) (Nat.le_of_ble_eq_true rfl) pC_33 d_Ro_copyFrom_103 (fun H locs hI => ?_)
  refine lv_aload_n hx hb d_Ro_copyFrom_106 rfl (lv_at hl 1 rfl) ?_
  refine sv_getr (C := "StoryMachine$Routines") (T := T_Ro) (N := 8) hx hb hts in_Ro hown hK hI 3 kC_3 rfl 7 (by decide) (hts _ mw_90) rfl d_Ro_copyFrom_107 ?_
  refine sn_iconst hx hb d_Ro_copyFrom_110 (by decide) (fun z37 hz37 => ?_)
  refine lv_aload_n hx hb d_Ro_copyFrom_111 rfl (lv_at hl 0 rfl) ?_
  refine sv_getr (C := "StoryMachine$Routines") (T := T_Ro) (N := 8) hx hb hts in_Ro hown hK hI 27 kC_27 rfl 7 (by decide) (hts _ mw_90) rfl d_Ro_copyFrom_112 ?_
  refine sn_iconst hx hb d_Ro_copyFrom_115 (by decide) (fun z38 hz38 => ?_)
  refine lv_aload_n hx hb d_Ro_copyFrom_116 rfl (lv_at hl 0 rfl) ?_
  refine sv_getr (C := "StoryMachine$Routines") (T := T_Ro) (N := 8) hx hb hts in_Ro hown hK hI 27 kC_27 rfl 7 (by decide) (hts _ mw_90) rfl d_Ro_copyFrom_117 ?_
  refine sv_alen hx hb hK hI 34 kC_34 (by decide) d_Ro_copyFrom_120 (fun z39 hz39 => ?_)
  refine sj_copy hx hb (by rw [hml]; exact hl.1.symm) hown (hts _ mw_722) (hts _ mw_717) (hts _ mw_716) (hts _ mw_23) hK (sh_in adC_map hAC) hI 14 34 (lo := 0) (hi := 65535) kC_14 kC_34 (fun _ h => h) (fun _ h => h) (by omega) (by omega) (by omega) (by omega) (by omega) (Nat.le_of_ble_eq_true rfl) (Nat.le_of_ble_eq_true rfl) pC_34 d_Ro_copyFrom_121 (fun H locs hI => ?_)
  subst hZ
  exact tz_ret (W.vret hx hb hr (fun t ht hW => ⟨⟨fun v9 hv9 => by cases hv9; exact (⟨rfl, hok, by rw [ht]; exact hI.1⟩), fun x9 hx9 => (by cases hx9)⟩, hI.2.F ht⟩) hI.2.2.2 d_Ro_copyFrom_124)
abbrev q_Ro_clear (dC : Nat → ClassId) (dI : Nat → Nat → Nat) (cI cJ : ClassId) (a : Nat → Nat) (he dp co li op wd tl lc fo : Int) (sf lf nf : Nat → Int32) : Outcome → State → Prop := fun o t => (∀ v, o = .returned v → ((∃ (he_ dp_ : Int) (nf_ : Nat → Int32), v = none ∧ okC he_ dp_ co li op wd tl lc fo sf lf nf_ ∧ (he_ ≤ 0) ∧ (dp_ ≤ 0) ∧ sh_I (dC, dI) vcl cI cJ (gsC a he_ dp_ co li op wd tl lc fo sf lf nf_) t.heap))) ∧ (∀ x, o = .threw x → (False))
def rm_Ro_clear : Room := { frames := 0, cells := 0, slots := 0, locals := 0 }
set_option maxHeartbeats 4000000 in
set_option maxRecDepth 100000 in
theorem c_Ro_clear (l : Launch) (hfl : l.flags = pinnedFlags ++ [noTraceFlag]) (dC : Nat → ClassId) (dI : Nat → Nat → Nat) (cI cJ : ClassId) (a : Nat → Nat) (sz : Nat) (he dp co li op wd tl lc fo : Int) (sf lf nf : Nat → Int32) (hok : okC he dp co li op wd tl lc fo sf lf nf) : tz_Met l ⟨"StoryMachine$Routines", "clear", "()V"⟩ tw_tbl rm_Ro_clear (tzP (dC, dI) vcl cI cJ (gsC a he dp co li op wd tl lc fo sf lf nf) a (adC a) [.ref (a 3)] sz) (tq_Q (q_Ro_clear dC dI cI cJ a he dp co li op wd tl lc fo sf lf nf) (ga (adC a) sz)) 0 0 0 0 (ga (adC a) sz) := by
  refine tz_ofW (cc := prog_9_method_2_code) (maxL := 1) (ret := none) (by decide) (tx_isM mw_465) ?_
  intro p e s m args below meth c s₁ B hml hv
  obtain ⟨rfl, hsz, hI0, hK, hst0⟩ := hv
  have hx := B.exec
  have hb := B.bytes
  have hr := B.returns
  have hts := atoms_spec (ws := tw_tbl) B.pre
  have hown : s.vm.findClass "StoryMachine$Routines" = some m.cls := findClass_of_methodNamed B.named
  have hlocks := B.notSynchronized
  subst hsz
  have hst := fun (H : Heap) (locs : List Loc) (hS : va_S (ga (adC a) s.heap.size) s.heap H locs) (U : State) (hU : U.heap = H) (hW : s.WarmedH U.vm) => zS_all adC_map hI0 hst0 hS hU hW
  have hAC : ∀ q ∈ adC a, ga (adC a) s.heap.size q := fun q h => Or.inl h
  have hA0 : ∀ q, s.heap.size ≤ q → ga (adC a) s.heap.size q := fun q h => Or.inr h
  have hI : sI (dC, dI) vcl cI cJ (gsC a he dp co li op wd tl lc fo sf lf nf) (ga (adC a) s.heap.size) s.heap s.heap [] := ⟨hI0, va_S.rf⟩
  clear hI0 hst0
  have hl := lv_entry ([.ref (a 3)]) (n := 1) (Nat.le_of_ble_eq_true rfl)
  rw [lg_entry_eq]
  generalize (lg_sl ([.ref (a 3)]) ++ List.replicate (1 - (lg_sl ([.ref (a 3)])).length) Slot.unset).toArray = ls at hl ⊢
  have hl : lv_has ls 1 [(0, .ref (a 3))] := hl
  generalize hZ : tz_MQ below (tq_Q (q_Ro_clear dC dI cI cJ a he dp co li op wd tl lc fo sf lf nf) (ga (adC a) s.heap.size)) ([.ref (a 3)] : List Value).toArray s 0 0 0 0 (ga (adC a) s.heap.size) = Z
  obtain ⟨A, hAe⟩ : ∃ A, A = ga (adC a) s.heap.size := ⟨_, rfl⟩
  rw [← hAe] at hst hAC hA0 hI hZ
  refine sv_start hI (fun H locs hI => ?_)
  obtain ⟨⟨o1, o2⟩, ⟨o3, o4⟩, ⟨o5, o6⟩, ⟨o7, o8⟩, ⟨o9, o10⟩, ⟨o11, o12⟩, ⟨o13, o14⟩, ⟨o15, o16⟩, ⟨o17, o18⟩, o19, -, -⟩ := id hok
  refine lv_aload_n hx hb d_Ro_clear_0 rfl (lv_at hl 0 rfl) ?_
  refine sn_iconst hx hb d_Ro_clear_1 (by decide) (fun z20 hz20 => ?_)
  refine sv_put (C := "StoryMachine$Routines") (T := T_Ro) (N := 8) (ty := .int) hx hb hts in_Ro t_Ro tk_Ro nm_Ro hown hK (sh_in adC_map hAC) hI 3 kC_3 rfl 1 (by decide) (hts _ mw_82) rfl (by decide +kernel) rfl rfl (Nat.le_of_ble_eq_true rfl) (Int.le_refl _) (Int.le_refl _) pC_3_1 d_Ro_clear_2 (fun H locs hI => ?_)
  refine lv_aload_n hx hb d_Ro_clear_5 rfl (lv_at hl 0 rfl) ?_
  refine sn_iconst hx hb d_Ro_clear_6 (by decide) (fun z21 hz21 => ?_)
  refine sv_put (C := "StoryMachine$Routines") (T := T_Ro) (N := 8) (ty := .int) hx hb hts in_Ro t_Ro tk_Ro nm_Ro hown hK (sh_in adC_map hAC) hI 3 kC_3 rfl 2 (by decide) (hts _ mw_84) rfl (by decide +kernel) rfl rfl (Nat.le_of_ble_eq_true rfl) (Int.le_refl _) (Int.le_refl _) pC_3_2 d_Ro_clear_7 (fun H locs hI => ?_)
  refine lv_aload_n hx hb d_Ro_clear_10 rfl (lv_at hl 0 rfl) ?_
  refine sv_getr (C := "StoryMachine$Routines") (T := T_Ro) (N := 8) hx hb hts in_Ro hown hK hI 3 kC_3 rfl 3 (by decide) (hts _ mw_86) rfl d_Ro_clear_11 ?_
  refine sn_iconst hx hb d_Ro_clear_14 (by decide) (fun z22 hz22 => ?_)
  refine sn_iconst hx hb d_Ro_clear_15 (by decide) (fun z23 hz23 => ?_)
  refine sv_iastr hx hb hK (sh_in adC_map hAC) hI 10 kC_10 (by omega) (by omega) (by omega) (by omega) pC_10 d_Ro_clear_16 (fun H locs hI => ?_)
  refine lv_aload_n hx hb d_Ro_clear_17 rfl (lv_at hl 0 rfl) ?_
  refine sv_getr (C := "StoryMachine$Routines") (T := T_Ro) (N := 8) hx hb hts in_Ro hown hK hI 3 kC_3 rfl 6 (by decide) (hts _ mw_89) rfl d_Ro_clear_18 ?_
  refine sn_iconst hx hb d_Ro_clear_21 (by decide) (fun z24 hz24 => ?_)
  refine sn_iconst hx hb d_Ro_clear_22 (by decide) (fun z25 hz25 => ?_)
  refine sv_iast hx hb hK (sh_in adC_map hAC) hI 13 kC_13 (P' := fun g => g = upd nf (z24.toNatClampNeg) z25) (by omega) (by omega) (fun g hg => by rw [hg]) pC_13 d_Ro_clear_23 (fun H locs hI => ?_)
  obtain ⟨f26, hf26⟩ : ∃ z : Nat → Int32, z = upd nf (z24.toNatClampNeg) z25 := ⟨_, rfl⟩
  rw [← hf26] at hI
  have rf26 : rg 0 15 f26 := by rw [hf26]; exact rg_upd hok.2.2.2.2.2.2.2.2.2.2.2 (by omega) (by omega)
  have ho27 : okC z20.toInt z21.toInt co li op wd tl lc fo sf lf f26 := ⟨⟨by omega, by omega⟩, ⟨by omega, by omega⟩, hok.2.2.1, hok.2.2.2.1, hok.2.2.2.2.1, hok.2.2.2.2.2.1, hok.2.2.2.2.2.2.1, hok.2.2.2.2.2.2.2.1, hok.2.2.2.2.2.2.2.2.1, hok.2.2.2.2.2.2.2.2.2.1, hok.2.2.2.2.2.2.2.2.2.2.1, rf26⟩
  subst hZ
  exact tz_ret (W.vret hx hb hr (fun t ht hW => ⟨⟨fun v9 hv9 => by cases hv9; exact (⟨z20.toInt, z21.toInt, f26, rfl, ho27, by omega, by omega, by rw [ht]; exact hI.1⟩), fun x9 hx9 => (by cases hx9)⟩, hI.2.F ht⟩) hI.2.2.2 d_Ro_clear_24)
abbrev q_Ro_push (dC : Nat → ClassId) (dI : Nat → Nat → Nat) (cI cJ : ClassId) (a : Nat → Nat) (he dp co li op wd tl lc fo : Int) (sf lf nf : Nat → Int32) (x1 : Int32) : Outcome → State → Prop := fun o t => (∀ v, o = .returned v → ((∃ (he_ : Int), v = none ∧ okC he_ dp co li op wd tl lc fo sf lf nf ∧ (he ≤ 47) ∧ (1 ≤ he_) ∧ sh_I (dC, dI) vcl cI cJ (gsC a he_ dp co li op wd tl lc fo sf lf nf) t.heap))) ∧ (∀ x, o = .threw x → ((ta_Ex "java/lang/IllegalStateException" x t ∧ okC he dp co li op wd tl lc fo sf lf nf ∧ (48 ≤ he) ∧ sh_I (dC, dI) vcl cI cJ (gsC a he dp co li op wd tl lc fo sf lf nf) t.heap)))
def rm_Ro_push : Room := { frames := 7, cells := 1, slots := 6, locals := 130 }
set_option maxHeartbeats 4000000 in
set_option maxRecDepth 100000 in
theorem c_Ro_push (l : Launch) (hfl : l.flags = pinnedFlags ++ [noTraceFlag]) (dC : Nat → ClassId) (dI : Nat → Nat → Nat) (cI cJ : ClassId) (a : Nat → Nat) (sz : Nat) (he dp co li op wd tl lc fo : Int) (sf lf nf : Nat → Int32) (x1 : Int32) (hok : okC he dp co li op wd tl lc fo sf lf nf) : tz_Met l ⟨"StoryMachine$Routines", "push", "(I)V"⟩ tw_tbl rm_Ro_push (tzP (dC, dI) vcl cI cJ (gsC a he dp co li op wd tl lc fo sf lf nf) a (adC a) [.ref (a 3), .int x1] sz) (tq_Q (q_Ro_push dC dI cI cJ a he dp co li op wd tl lc fo sf lf nf x1) (ga (adC a) sz)) 0 0 1 6 (ga (adC a) sz) := by
  refine tz_ofW (cc := prog_9_method_3_code) (maxL := 2) (ret := none) (by decide) (tx_isM mw_628) ?_
  intro p e s m args below meth c s₁ B hml hv
  obtain ⟨rfl, hsz, hI0, hK, hst0⟩ := hv
  have hx := B.exec
  have hb := B.bytes
  have hr := B.returns
  have hts := atoms_spec (ws := tw_tbl) B.pre
  have hown : s.vm.findClass "StoryMachine$Routines" = some m.cls := findClass_of_methodNamed B.named
  have hlocks := B.notSynchronized
  subst hsz
  have hst := fun (H : Heap) (locs : List Loc) (hS : va_S (ga (adC a) s.heap.size) s.heap H locs) (U : State) (hU : U.heap = H) (hW : s.WarmedH U.vm) => zS_all adC_map hI0 hst0 hS hU hW
  have hAC : ∀ q ∈ adC a, ga (adC a) s.heap.size q := fun q h => Or.inl h
  have hA0 : ∀ q, s.heap.size ≤ q → ga (adC a) s.heap.size q := fun q h => Or.inr h
  have hI : sI (dC, dI) vcl cI cJ (gsC a he dp co li op wd tl lc fo sf lf nf) (ga (adC a) s.heap.size) s.heap s.heap [] := ⟨hI0, va_S.rf⟩
  clear hI0 hst0
  have hl := lv_entry ([.ref (a 3), .int x1]) (n := 2) (Nat.le_of_ble_eq_true rfl)
  rw [lg_entry_eq]
  generalize (lg_sl ([.ref (a 3), .int x1]) ++ List.replicate (2 - (lg_sl ([.ref (a 3), .int x1])).length) Slot.unset).toArray = ls at hl ⊢
  have hl : lv_has ls 2 [(0, .ref (a 3)), (1, .int x1)] := hl
  generalize hZ : tz_MQ below (tq_Q (q_Ro_push dC dI cI cJ a he dp co li op wd tl lc fo sf lf nf x1) (ga (adC a) s.heap.size)) ([.ref (a 3), .int x1] : List Value).toArray s 0 0 1 6 (ga (adC a) s.heap.size) = Z
  obtain ⟨A, hAe⟩ : ∃ A, A = ga (adC a) s.heap.size := ⟨_, rfl⟩
  rw [← hAe] at hst hAC hA0 hI hZ
  refine sv_start hI (fun H locs hI => ?_)
  obtain ⟨⟨o1, o2⟩, ⟨o3, o4⟩, ⟨o5, o6⟩, ⟨o7, o8⟩, ⟨o9, o10⟩, ⟨o11, o12⟩, ⟨o13, o14⟩, ⟨o15, o16⟩, ⟨o17, o18⟩, o19, -, -⟩ := id hok
  have gx1 := sn_rng x1
  refine lv_aload_n hx hb d_Ro_push_0 rfl (lv_at hl 0 rfl) ?_
  refine sv_gete (C := "StoryMachine$Routines") (T := T_Ro) (N := 8) hx hb hts in_Ro hown hK hI 3 kC_3 rfl 1 (by decide) (hts _ mw_82) rfl d_Ro_push_1 (fun z20 hz20 => ?_)
  refine sn_bipush hx hb d_Ro_push_4 (by decide) (fun z21 hz21 => ?_)
  refine sn_icmp_lt (tgt := 17) hx hb d_Ro_push_6 (by decide) (fun b22 => ?_) (fun b22 => ?_)
  · refine lv_aload_n hx hb d_Ro_push_17 rfl (lv_at hl 0 rfl) ?_
    refine sv_getr (C := "StoryMachine$Routines") (T := T_Ro) (N := 8) hx hb hts in_Ro hown hK hI 3 kC_3 rfl 0 (by decide) (hts _ mw_80) rfl d_Ro_push_18 ?_
    refine lv_aload_n hx hb d_Ro_push_21 rfl (lv_at hl 0 rfl) ?_
    refine sv_gete (C := "StoryMachine$Routines") (T := T_Ro) (N := 8) hx hb hts in_Ro hown hK hI 3 kC_3 rfl 1 (by decide) (hts _ mw_82) rfl d_Ro_push_22 (fun z23 hz23 => ?_)
    refine lv_iload_n hx hb d_Ro_push_25 rfl (lv_at hl 1 rfl) ?_
    refine sn_ldc (n := 65535) hx hb hown (hts _ mw_624) d_Ro_push_26 (by decide) (fun z24 hz24 => ?_)
    refine sn_iand (k := 16) (M := 65535) hx hb d_Ro_push_28 (by decide) (by decide) (by omega) (fun z25 hz25a hz25b hz25c => ?_)
    clear hz25c
    refine sv_iastr hx hb hK (sh_in adC_map hAC) hI 9 kC_9 (by omega) (by omega) (by omega) (by omega) pC_9 d_Ro_push_29 (fun H locs hI => ?_)
    refine lv_aload_n hx hb d_Ro_push_30 rfl (lv_at hl 0 rfl) ?_
    refine lv_dup hx hb d_Ro_push_31 rfl ?_
    refine sv_gete (C := "StoryMachine$Routines") (T := T_Ro) (N := 8) hx hb hts in_Ro hown hK hI 3 kC_3 rfl 1 (by decide) (hts _ mw_82) rfl d_Ro_push_32 (fun z26 hz26 => ?_)
    refine sn_iconst hx hb d_Ro_push_35 (by decide) (fun z27 hz27 => ?_)
    refine sn_iadd hx hb d_Ro_push_36 (by omega) (by omega) (fun z28 hz28 => ?_)
    refine sv_put (C := "StoryMachine$Routines") (T := T_Ro) (N := 8) (ty := .int) hx hb hts in_Ro t_Ro tk_Ro nm_Ro hown hK (sh_in adC_map hAC) hI 3 kC_3 rfl 1 (by decide) (hts _ mw_82) rfl (by decide +kernel) rfl rfl (Nat.le_of_ble_eq_true rfl) (Int.le_refl _) (Int.le_refl _) pC_3_1 d_Ro_push_37 (fun H locs hI => ?_)
    have ho29 : okC z28.toInt dp co li op wd tl lc fo sf lf nf := ⟨⟨by omega, by omega⟩, hok.2.1, hok.2.2.1, hok.2.2.2.1, hok.2.2.2.2.1, hok.2.2.2.2.2.1, hok.2.2.2.2.2.2.1, hok.2.2.2.2.2.2.2.1, hok.2.2.2.2.2.2.2.2.1, hok.2.2.2.2.2.2.2.2.2.1, hok.2.2.2.2.2.2.2.2.2.2.1, hok.2.2.2.2.2.2.2.2.2.2.2⟩
    subst hZ
    exact tz_ret (W.vret hx hb hr (fun t ht hW => ⟨⟨fun v9 hv9 => by cases hv9; exact (⟨z28.toInt, rfl, ho29, by omega, by omega, by rw [ht]; exact hI.1⟩), fun x9 hx9 => (by cases hx9)⟩, hI.2.F ht⟩) hI.2.2.2 d_Ro_push_40)
  · refine W.widen (k := 0) (n := 0) (Nat.le_of_ble_eq_true rfl) (Nat.le_of_ble_eq_true rfl) ?_
    subst hZ
    exact tz_thrown (tth_Ro_IllegalStateException hx hb hfl hown hts (fun U hU hW => (hst _ _ hI.2 U hU hW).1) (by rw [hml]; exact hl.1) d_Ro_push_9 d_Ro_push_12 d_Ro_push_13 d_Ro_push_16 (tx_noH B (hts _ mw_628) _) (Nat.le_of_ble_eq_true rfl) (Nat.le_of_ble_eq_true rfl) (Nat.le_of_ble_eq_true rfl) (Nat.le_of_ble_eq_true rfl) (fun t ce hW hz hk hce hcl hvm => ⟨⟨⟨fun v9 hv9 => (by cases hv9), fun x9 hx9 => by cases hx9; exact (⟨⟨ce, hce, hcl, hvm⟩, hok, by omega, sh_kept hI.1 hk⟩)⟩, ta_thrown hI.2 hz hk⟩, _, rfl⟩) hI.2.2.2 hlocks)
abbrev q_Ro_top (dC : Nat → ClassId) (dI : Nat → Nat → Nat) (cI cJ : ClassId) (a : Nat → Nat) (he dp co li op wd tl lc fo : Int) (sf lf nf : Nat → Int32) : Outcome → State → Prop := fun o t => (∀ v, o = .returned v → ((∃ (z : Int32), v = some (.int z) ∧ okC he dp co li op wd tl lc fo sf lf nf ∧ (0 ≤ z.toInt) ∧ (z.toInt ≤ 65535) ∧ (1 ≤ he) ∧ sh_I (dC, dI) vcl cI cJ (gsC a he dp co li op wd tl lc fo sf lf nf) t.heap))) ∧ (∀ x, o = .threw x → ((ta_Ex "java/lang/IllegalStateException" x t ∧ okC he dp co li op wd tl lc fo sf lf nf ∧ sh_I (dC, dI) vcl cI cJ (gsC a he dp co li op wd tl lc fo sf lf nf) t.heap)))
def rm_Ro_top : Room := { frames := 7, cells := 1, slots := 6, locals := 130 }
set_option maxHeartbeats 4000000 in
set_option maxRecDepth 100000 in
theorem c_Ro_top (l : Launch) (hfl : l.flags = pinnedFlags ++ [noTraceFlag]) (dC : Nat → ClassId) (dI : Nat → Nat → Nat) (cI cJ : ClassId) (a : Nat → Nat) (sz : Nat) (he dp co li op wd tl lc fo : Int) (sf lf nf : Nat → Int32) (hok : okC he dp co li op wd tl lc fo sf lf nf) : tz_Met l ⟨"StoryMachine$Routines", "top", "()I"⟩ tw_tbl rm_Ro_top (tzP (dC, dI) vcl cI cJ (gsC a he dp co li op wd tl lc fo sf lf nf) a (adC a) [.ref (a 3)] sz) (tq_Q (q_Ro_top dC dI cI cJ a he dp co li op wd tl lc fo sf lf nf) (ga (adC a) sz)) 0 0 1 6 (ga (adC a) sz) := by
  refine tz_ofW (cc := prog_9_method_5_code) (maxL := 1) (ret := (some .int)) (by decide) (tx_isM mw_542) ?_
  intro p e s m args below meth c s₁ B hml hv
  obtain ⟨rfl, hsz, hI0, hK, hst0⟩ := hv
  have hx := B.exec
  have hb := B.bytes
  have hr := B.returns
  have hts := atoms_spec (ws := tw_tbl) B.pre
  have hown : s.vm.findClass "StoryMachine$Routines" = some m.cls := findClass_of_methodNamed B.named
  have hlocks := B.notSynchronized
  subst hsz
  have hst := fun (H : Heap) (locs : List Loc) (hS : va_S (ga (adC a) s.heap.size) s.heap H locs) (U : State) (hU : U.heap = H) (hW : s.WarmedH U.vm) => zS_all adC_map hI0 hst0 hS hU hW
  have hAC : ∀ q ∈ adC a, ga (adC a) s.heap.size q := fun q h => Or.inl h
  have hA0 : ∀ q, s.heap.size ≤ q → ga (adC a) s.heap.size q := fun q h => Or.inr h
  have hI : sI (dC, dI) vcl cI cJ (gsC a he dp co li op wd tl lc fo sf lf nf) (ga (adC a) s.heap.size) s.heap s.heap [] := ⟨hI0, va_S.rf⟩
  clear hI0 hst0
  have hl := lv_entry ([.ref (a 3)]) (n := 1) (Nat.le_of_ble_eq_true rfl)
  rw [lg_entry_eq]
  generalize (lg_sl ([.ref (a 3)]) ++ List.replicate (1 - (lg_sl ([.ref (a 3)])).length) Slot.unset).toArray = ls at hl ⊢
  have hl : lv_has ls 1 [(0, .ref (a 3))] := hl
  generalize hZ : tz_MQ below (tq_Q (q_Ro_top dC dI cI cJ a he dp co li op wd tl lc fo sf lf nf) (ga (adC a) s.heap.size)) ([.ref (a 3)] : List Value).toArray s 0 0 1 6 (ga (adC a) s.heap.size) = Z
  obtain ⟨A, hAe⟩ : ∃ A, A = ga (adC a) s.heap.size := ⟨_, rfl⟩
  rw [← hAe] at hst hAC hA0 hI hZ
  refine sv_start hI (fun H locs hI => ?_)
  obtain ⟨⟨o1, o2⟩, ⟨o3, o4⟩, ⟨o5, o6⟩, ⟨o7, o8⟩, ⟨o9, o10⟩, ⟨o11, o12⟩, ⟨o13, o14⟩, ⟨o15, o16⟩, ⟨o17, o18⟩, o19, -, -⟩ := id hok
  refine lv_aload_n hx hb d_Ro_top_0 rfl (lv_at hl 0 rfl) ?_
  refine sv_gete (C := "StoryMachine$Routines") (T := T_Ro) (N := 8) hx hb hts in_Ro hown hK hI 3 kC_3 rfl 1 (by decide) (hts _ mw_82) rfl d_Ro_top_1 (fun z20 hz20 => ?_)
  refine lv_aload_n hx hb d_Ro_top_4 rfl (lv_at hl 0 rfl) ?_
  refine sv_getr (C := "StoryMachine$Routines") (T := T_Ro) (N := 8) hx hb hts in_Ro hown hK hI 3 kC_3 rfl 3 (by decide) (hts _ mw_86) rfl d_Ro_top_5 ?_
  refine lv_aload_n hx hb d_Ro_top_8 rfl (lv_at hl 0 rfl) ?_
  refine sv_gete (C := "StoryMachine$Routines") (T := T_Ro) (N := 8) hx hb hts in_Ro hown hK hI 3 kC_3 rfl 2 (by decide) (hts _ mw_84) rfl d_Ro_top_9 (fun z21 hz21 => ?_)
  refine sv_ialdr hx hb hK hI 10 kC_10 (by omega) (by omega) d_Ro_top_12 (fun z22 hz22a hz22b => ?_)
  refine sn_icmp_gt (tgt := 24) hx hb d_Ro_top_13 (by decide) (fun b23 => ?_) (fun b23 => ?_)
  · refine lv_aload_n hx hb d_Ro_top_24 rfl (lv_at hl 0 rfl) ?_
    refine sv_getr (C := "StoryMachine$Routines") (T := T_Ro) (N := 8) hx hb hts in_Ro hown hK hI 3 kC_3 rfl 0 (by decide) (hts _ mw_80) rfl d_Ro_top_25 ?_
    refine lv_aload_n hx hb d_Ro_top_28 rfl (lv_at hl 0 rfl) ?_
    refine sv_gete (C := "StoryMachine$Routines") (T := T_Ro) (N := 8) hx hb hts in_Ro hown hK hI 3 kC_3 rfl 1 (by decide) (hts _ mw_82) rfl d_Ro_top_29 (fun z24 hz24 => ?_)
    refine sn_iconst hx hb d_Ro_top_32 (by decide) (fun z25 hz25 => ?_)
    refine sn_isub hx hb d_Ro_top_33 (by omega) (by omega) (fun z26 hz26 => ?_)
    refine sv_ialdr hx hb hK hI 9 kC_9 (by omega) (by omega) d_Ro_top_34 (fun z27 hz27a hz27b => ?_)
    subst hZ
    exact tz_ret (W.iret (v := z27) hx hb hr (fun t ht hW => ⟨⟨fun v9 hv9 => by cases hv9; exact (⟨z27, rfl, hok, by omega, by omega, by omega, by rw [ht]; exact hI.1⟩), fun x9 hx9 => (by cases hx9)⟩, hI.2.F ht⟩) hI.2.2.2 d_Ro_top_35)
  · refine W.widen (k := 0) (n := 0) (Nat.le_of_ble_eq_true rfl) (Nat.le_of_ble_eq_true rfl) ?_
    subst hZ
    exact tz_thrown (tth_Ro_IllegalStateException hx hb hfl hown hts (fun U hU hW => (hst _ _ hI.2 U hU hW).1) (by rw [hml]; exact hl.1) d_Ro_top_16 d_Ro_top_19 d_Ro_top_20 d_Ro_top_23 (tx_noH B (hts _ mw_542) _) (Nat.le_of_ble_eq_true rfl) (Nat.le_of_ble_eq_true rfl) (Nat.le_of_ble_eq_true rfl) (Nat.le_of_ble_eq_true rfl) (fun t ce hW hz hk hce hcl hvm => ⟨⟨⟨fun v9 hv9 => (by cases hv9), fun x9 hx9 => by cases hx9; exact (⟨⟨ce, hce, hcl, hvm⟩, hok, sh_kept hI.1 hk⟩)⟩, ta_thrown hI.2 hz hk⟩, _, rfl⟩) hI.2.2.2 hlocks)
abbrev q_Ro_pop (dC : Nat → ClassId) (dI : Nat → Nat → Nat) (cI cJ : ClassId) (a : Nat → Nat) (he dp co li op wd tl lc fo : Int) (sf lf nf : Nat → Int32) : Outcome → State → Prop := fun o t => (∀ v, o = .returned v → ((∃ (z : Int32) (he_ : Int), v = some (.int z) ∧ okC he_ dp co li op wd tl lc fo sf lf nf ∧ (0 ≤ z.toInt) ∧ (z.toInt ≤ 65535) ∧ (1 ≤ he) ∧ (he_ ≤ 47) ∧ sh_I (dC, dI) vcl cI cJ (gsC a he_ dp co li op wd tl lc fo sf lf nf) t.heap))) ∧ (∀ x, o = .threw x → ((ta_Ex "java/lang/IllegalStateException" x t ∧ okC he dp co li op wd tl lc fo sf lf nf ∧ sh_I (dC, dI) vcl cI cJ (gsC a he dp co li op wd tl lc fo sf lf nf) t.heap)))
def rm_Ro_pop : Room := { frames := 8, cells := 1, slots := 6, locals := 150 }
set_option maxHeartbeats 4000000 in
set_option maxRecDepth 100000 in
theorem c_Ro_pop (l : Launch) (hfl : l.flags = pinnedFlags ++ [noTraceFlag]) (dC : Nat → ClassId) (dI : Nat → Nat → Nat) (cI cJ : ClassId) (a : Nat → Nat) (sz : Nat) (he dp co li op wd tl lc fo : Int) (sf lf nf : Nat → Int32) (hok : okC he dp co li op wd tl lc fo sf lf nf) : tz_Met l ⟨"StoryMachine$Routines", "pop", "()I"⟩ tw_tbl rm_Ro_pop (tzP (dC, dI) vcl cI cJ (gsC a he dp co li op wd tl lc fo sf lf nf) a (adC a) [.ref (a 3)] sz) (tq_Q (q_Ro_pop dC dI cI cJ a he dp co li op wd tl lc fo sf lf nf) (ga (adC a) sz)) 0 0 1 6 (ga (adC a) sz) := by
  refine tz_ofW (cc := prog_9_method_4_code) (maxL := 2) (ret := (some .int)) (by decide) (tx_isM mw_548) ?_
  intro p e s m args below meth c s₁ B hml hv
  obtain ⟨rfl, hsz, hI0, hK, hst0⟩ := hv
  have hx := B.exec
  have hb := B.bytes
  have hr := B.returns
  have hts := atoms_spec (ws := tw_tbl) B.pre
  have hown : s.vm.findClass "StoryMachine$Routines" = some m.cls := findClass_of_methodNamed B.named
  have hlocks := B.notSynchronized
  subst hsz
  have hst := fun (H : Heap) (locs : List Loc) (hS : va_S (ga (adC a) s.heap.size) s.heap H locs) (U : State) (hU : U.heap = H) (hW : s.WarmedH U.vm) => zS_all adC_map hI0 hst0 hS hU hW
  have hAC : ∀ q ∈ adC a, ga (adC a) s.heap.size q := fun q h => Or.inl h
  have hA0 : ∀ q, s.heap.size ≤ q → ga (adC a) s.heap.size q := fun q h => Or.inr h
  have hI : sI (dC, dI) vcl cI cJ (gsC a he dp co li op wd tl lc fo sf lf nf) (ga (adC a) s.heap.size) s.heap s.heap [] := ⟨hI0, va_S.rf⟩
  clear hI0 hst0
  have hl := lv_entry ([.ref (a 3)]) (n := 2) (Nat.le_of_ble_eq_true rfl)
  rw [lg_entry_eq]
  generalize (lg_sl ([.ref (a 3)]) ++ List.replicate (2 - (lg_sl ([.ref (a 3)])).length) Slot.unset).toArray = ls at hl ⊢
  have hl : lv_has ls 2 [(0, .ref (a 3))] := hl
  generalize hZ : tz_MQ below (tq_Q (q_Ro_pop dC dI cI cJ a he dp co li op wd tl lc fo sf lf nf) (ga (adC a) s.heap.size)) ([.ref (a 3)] : List Value).toArray s 0 0 1 6 (ga (adC a) s.heap.size) = Z
  obtain ⟨A, hAe⟩ : ∃ A, A = ga (adC a) s.heap.size := ⟨_, rfl⟩
  rw [← hAe] at hst hAC hA0 hI hZ
  refine sv_start hI (fun H locs hI => ?_)
  obtain ⟨⟨o1, o2⟩, ⟨o3, o4⟩, ⟨o5, o6⟩, ⟨o7, o8⟩, ⟨o9, o10⟩, ⟨o11, o12⟩, ⟨o13, o14⟩, ⟨o15, o16⟩, ⟨o17, o18⟩, o19, -, -⟩ := id hok
  refine lv_aload_n hx hb d_Ro_pop_0 rfl (lv_at hl 0 rfl) ?_
  refine tz_call (A1 := ga (adC a) H.size) (tz_runV (C := "StoryMachine$Routines") (As := []) (rest := []) ⟨hx, hb, hml, hown, hts⟩ (c_Ro_top l hfl dC dI cI cJ a H.size he dp co li op wd tl lc fo sf lf nf  hok) (tx_cb (n := 0) hts rfl rfl ⟨Nat.le_of_ble_eq_true rfl, Nat.le_of_ble_eq_true rfl⟩ (tx_code.of (hts _ mw_542)) (hts _ mw_4) (by decide +kernel) (hts _ mw_549)) (hts _ mw_540) (hts _ mw_541) ⟨tz_blind, sv_recv (q0 := 3) hts in_Ro hK hI kC_3 rfl, fun U hU hW => ⟨rfl, by rw [hU], by rw [hU]; exact hI.1, va_K.moved hW.alike hK, hst _ _ hI.2 U hU hW⟩⟩ rfl rfl hl.1 rfl (lv_room (Nat.le_of_ble_eq_true rfl)) d_Ro_pop_1 ⟨Nat.le_of_ble_eq_true rfl, Nat.le_of_ble_eq_true rfl⟩) hI.2 (fun q _ h => ga_sub hAC hA0 hI.2 q h) (ga_sub hAC hA0 hI.2) (fun v t H1 locs1 ht hWt hpost _ _ hS => ?_) (fun x t H1 locs1 ht hWt hpost _ _ hS => ?_)
  · rcases hpost.1 _ rfl with ⟨z20, hv, c21, c21_0, c21_1, c21_2, hI1⟩
    cases hv
    have hI : sI (dC, dI) vcl cI cJ (gsC a he dp co li op wd tl lc fo sf lf nf) A s.heap H1 locs1 := ⟨by rw [← ht]; exact hI1, hS⟩
    clear hpost hI1 hS ht hWt
    revert hI; generalize H1 = H; generalize locs1 = locs; intro hI
    refine lv_istore_n (lv' := [(1, .int z20), (0, .ref (a 3))]) hx hb d_Ro_pop_4 rfl hl (by decide) rfl (fun ls hl => ?_)
    refine lv_aload_n hx hb d_Ro_pop_5 rfl (lv_at hl 1 rfl) ?_
    refine lv_dup hx hb d_Ro_pop_6 rfl ?_
    refine sv_gete (C := "StoryMachine$Routines") (T := T_Ro) (N := 8) hx hb hts in_Ro hown hK hI 3 kC_3 rfl 1 (by decide) (hts _ mw_82) rfl d_Ro_pop_7 (fun z22 hz22 => ?_)
    refine sn_iconst hx hb d_Ro_pop_10 (by decide) (fun z23 hz23 => ?_)
    refine sn_isub hx hb d_Ro_pop_11 (by omega) (by omega) (fun z24 hz24 => ?_)
    refine sv_put (C := "StoryMachine$Routines") (T := T_Ro) (N := 8) (ty := .int) hx hb hts in_Ro t_Ro tk_Ro nm_Ro hown hK (sh_in adC_map hAC) hI 3 kC_3 rfl 1 (by decide) (hts _ mw_82) rfl (by decide +kernel) rfl rfl (Nat.le_of_ble_eq_true rfl) (Int.le_refl _) (Int.le_refl _) pC_3_1 d_Ro_pop_12 (fun H locs hI => ?_)
    refine lv_iload_n hx hb d_Ro_pop_15 rfl (lv_at hl 0 rfl) ?_
    have ho25 : okC z24.toInt dp co li op wd tl lc fo sf lf nf := ⟨⟨by omega, by omega⟩, c21.2.1, c21.2.2.1, c21.2.2.2.1, c21.2.2.2.2.1, c21.2.2.2.2.2.1, c21.2.2.2.2.2.2.1, c21.2.2.2.2.2.2.2.1, c21.2.2.2.2.2.2.2.2.1, c21.2.2.2.2.2.2.2.2.2.1, c21.2.2.2.2.2.2.2.2.2.2.1, c21.2.2.2.2.2.2.2.2.2.2.2⟩
    subst hZ
    exact tz_ret (W.iret (v := z20) hx hb hr (fun t ht hW => ⟨⟨fun v9 hv9 => by cases hv9; exact (⟨z20, z24.toInt, rfl, ho25, by omega, by omega, by omega, by omega, by rw [ht]; exact hI.1⟩), fun x9 hx9 => (by cases hx9)⟩, hI.2.F ht⟩) hI.2.2.2 d_Ro_pop_16)
  · rcases hpost.2 _ rfl with ⟨hex, c26, hI1⟩
    have hI : sI (dC, dI) vcl cI cJ (gsC a he dp co li op wd tl lc fo sf lf nf) A s.heap H1 locs1 := ⟨by rw [← ht]; exact hI1, hS⟩
    refine tz_widen (k := 1) (n := 6) (Nat.le_of_ble_eq_true rfl) (Nat.le_of_ble_eq_true rfl) ?_
    subst hZ
    exact tz_leave (tx_noH B (hts _ mw_548) _) (fun t9 ht9 hW9 => ⟨⟨fun v9 hv9 => (by cases hv9), fun x9 hx9 => by cases hx9; exact (⟨ta_exm hex ht ht9 hWt hW9, c26, by rw [ht9]; exact hI.1⟩)⟩, hI.2.F ht9⟩) hI.2.2.2 hlocks
abbrev q_Ro_replaceTop (dC : Nat → ClassId) (dI : Nat → Nat → Nat) (cI cJ : ClassId) (a : Nat → Nat) (he dp co li op wd tl lc fo : Int) (sf lf nf : Nat → Int32) (x1 : Int32) : Outcome → State → Prop := fun o t => (∀ v, o = .returned v → ((v = none ∧ okC he dp co li op wd tl lc fo sf lf nf ∧ (1 ≤ he) ∧ sh_I (dC, dI) vcl cI cJ (gsC a he dp co li op wd tl lc fo sf lf nf) t.heap))) ∧ (∀ x, o = .threw x → ((ta_Ex "java/lang/IllegalStateException" x t ∧ okC he dp co li op wd tl lc fo sf lf nf ∧ sh_I (dC, dI) vcl cI cJ (gsC a he dp co li op wd tl lc fo sf lf nf) t.heap)))
def rm_Ro_replaceTop : Room := { frames := 7, cells := 1, slots := 6, locals := 130 }
set_option maxHeartbeats 4000000 in
set_option maxRecDepth 100000 in
theorem c_Ro_replaceTop (l : Launch) (hfl : l.flags = pinnedFlags ++ [noTraceFlag]) (dC : Nat → ClassId) (dI : Nat → Nat → Nat) (cI cJ : ClassId) (a : Nat → Nat) (sz : Nat) (he dp co li op wd tl lc fo : Int) (sf lf nf : Nat → Int32) (x1 : Int32) (hok : okC he dp co li op wd tl lc fo sf lf nf) : tz_Met l ⟨"StoryMachine$Routines", "replaceTop", "(I)V"⟩ tw_tbl rm_Ro_replaceTop (tzP (dC, dI) vcl cI cJ (gsC a he dp co li op wd tl lc fo sf lf nf) a (adC a) [.ref (a 3), .int x1] sz) (tq_Q (q_Ro_replaceTop dC dI cI cJ a he dp co li op wd tl lc fo sf lf nf x1) (ga (adC a) sz)) 0 0 1 6 (ga (adC a) sz) := by
  refine tz_ofW (cc := prog_9_method_6_code) (maxL := 2) (ret := none) (by decide) (tx_isM mw_623) ?_
  intro p e s m args below meth c s₁ B hml hv
  obtain ⟨rfl, hsz, hI0, hK, hst0⟩ := hv
  have hx := B.exec
  have hb := B.bytes
  have hr := B.returns
  have hts := atoms_spec (ws := tw_tbl) B.pre
  have hown : s.vm.findClass "StoryMachine$Routines" = some m.cls := findClass_of_methodNamed B.named
  have hlocks := B.notSynchronized
  subst hsz
  have hst := fun (H : Heap) (locs : List Loc) (hS : va_S (ga (adC a) s.heap.size) s.heap H locs) (U : State) (hU : U.heap = H) (hW : s.WarmedH U.vm) => zS_all adC_map hI0 hst0 hS hU hW
  have hAC : ∀ q ∈ adC a, ga (adC a) s.heap.size q := fun q h => Or.inl h
  have hA0 : ∀ q, s.heap.size ≤ q → ga (adC a) s.heap.size q := fun q h => Or.inr h
  have hI : sI (dC, dI) vcl cI cJ (gsC a he dp co li op wd tl lc fo sf lf nf) (ga (adC a) s.heap.size) s.heap s.heap [] := ⟨hI0, va_S.rf⟩
  clear hI0 hst0
  have hl := lv_entry ([.ref (a 3), .int x1]) (n := 2) (Nat.le_of_ble_eq_true rfl)
  rw [lg_entry_eq]
  generalize (lg_sl ([.ref (a 3), .int x1]) ++ List.replicate (2 - (lg_sl ([.ref (a 3), .int x1])).length) Slot.unset).toArray = ls at hl ⊢
  have hl : lv_has ls 2 [(0, .ref (a 3)), (1, .int x1)] := hl
  generalize hZ : tz_MQ below (tq_Q (q_Ro_replaceTop dC dI cI cJ a he dp co li op wd tl lc fo sf lf nf x1) (ga (adC a) s.heap.size)) ([.ref (a 3), .int x1] : List Value).toArray s 0 0 1 6 (ga (adC a) s.heap.size) = Z
  obtain ⟨A, hAe⟩ : ∃ A, A = ga (adC a) s.heap.size := ⟨_, rfl⟩
  rw [← hAe] at hst hAC hA0 hI hZ
  refine sv_start hI (fun H locs hI => ?_)
  obtain ⟨⟨o1, o2⟩, ⟨o3, o4⟩, ⟨o5, o6⟩, ⟨o7, o8⟩, ⟨o9, o10⟩, ⟨o11, o12⟩, ⟨o13, o14⟩, ⟨o15, o16⟩, ⟨o17, o18⟩, o19, -, -⟩ := id hok
  have gx1 := sn_rng x1
  refine lv_aload_n hx hb d_Ro_replaceTop_0 rfl (lv_at hl 0 rfl) ?_
  refine sv_gete (C := "StoryMachine$Routines") (T := T_Ro) (N := 8) hx hb hts in_Ro hown hK hI 3 kC_3 rfl 1 (by decide) (hts _ mw_82) rfl d_Ro_replaceTop_1 (fun z20 hz20 => ?_)
  refine lv_aload_n hx hb d_Ro_replaceTop_4 rfl (lv_at hl 0 rfl) ?_
  refine sv_getr (C := "StoryMachine$Routines") (T := T_Ro) (N := 8) hx hb hts in_Ro hown hK hI 3 kC_3 rfl 3 (by decide) (hts _ mw_86) rfl d_Ro_replaceTop_5 ?_
  refine lv_aload_n hx hb d_Ro_replaceTop_8 rfl (lv_at hl 0 rfl) ?_
  refine sv_gete (C := "StoryMachine$Routines") (T := T_Ro) (N := 8) hx hb hts in_Ro hown hK hI 3 kC_3 rfl 2 (by decide) (hts _ mw_84) rfl d_Ro_replaceTop_9 (fun z21 hz21 => ?_)
  refine sv_ialdr hx hb hK hI 10 kC_10 (by omega) (by omega) d_Ro_replaceTop_12 (fun z22 hz22a hz22b => ?_)
  refine sn_icmp_gt (tgt := 24) hx hb d_Ro_replaceTop_13 (by decide) (fun b23 => ?_) (fun b23 => ?_)
  · refine lv_aload_n hx hb d_Ro_replaceTop_24 rfl (lv_at hl 0 rfl) ?_
    refine sv_getr (C := "StoryMachine$Routines") (T := T_Ro) (N := 8) hx hb hts in_Ro hown hK hI 3 kC_3 rfl 0 (by decide) (hts _ mw_80) rfl d_Ro_replaceTop_25 ?_
    refine lv_aload_n hx hb d_Ro_replaceTop_28 rfl (lv_at hl 0 rfl) ?_
    refine sv_gete (C := "StoryMachine$Routines") (T := T_Ro) (N := 8) hx hb hts in_Ro hown hK hI 3 kC_3 rfl 1 (by decide) (hts _ mw_82) rfl d_Ro_replaceTop_29 (fun z24 hz24 => ?_)
    refine sn_iconst hx hb d_Ro_replaceTop_32 (by decide) (fun z25 hz25 => ?_)
    refine sn_isub hx hb d_Ro_replaceTop_33 (by omega) (by omega) (fun z26 hz26 => ?_)
    refine lv_iload_n hx hb d_Ro_replaceTop_34 rfl (lv_at hl 1 rfl) ?_
    refine sn_ldc (n := 65535) hx hb hown (hts _ mw_624) d_Ro_replaceTop_35 (by decide) (fun z27 hz27 => ?_)
    refine sn_iand (k := 16) (M := 65535) hx hb d_Ro_replaceTop_37 (by decide) (by decide) (by omega) (fun z28 hz28a hz28b hz28c => ?_)
    clear hz28c
    refine sv_iastr hx hb hK (sh_in adC_map hAC) hI 9 kC_9 (by omega) (by omega) (by omega) (by omega) pC_9 d_Ro_replaceTop_38 (fun H locs hI => ?_)
    subst hZ
    exact tz_ret (W.vret hx hb hr (fun t ht hW => ⟨⟨fun v9 hv9 => by cases hv9; exact (⟨rfl, hok, by omega, by rw [ht]; exact hI.1⟩), fun x9 hx9 => (by cases hx9)⟩, hI.2.F ht⟩) hI.2.2.2 d_Ro_replaceTop_39)
  · refine W.widen (k := 0) (n := 0) (Nat.le_of_ble_eq_true rfl) (Nat.le_of_ble_eq_true rfl) ?_
    subst hZ
    exact tz_thrown (tth_Ro_IllegalStateException hx hb hfl hown hts (fun U hU hW => (hst _ _ hI.2 U hU hW).1) (by rw [hml]; exact hl.1) d_Ro_replaceTop_16 d_Ro_replaceTop_19 d_Ro_replaceTop_20 d_Ro_replaceTop_23 (tx_noH B (hts _ mw_623) _) (Nat.le_of_ble_eq_true rfl) (Nat.le_of_ble_eq_true rfl) (Nat.le_of_ble_eq_true rfl) (Nat.le_of_ble_eq_true rfl) (fun t ce hW hz hk hce hcl hvm => ⟨⟨⟨fun v9 hv9 => (by cases hv9), fun x9 hx9 => by cases hx9; exact (⟨⟨ce, hce, hcl, hvm⟩, hok, sh_kept hI.1 hk⟩)⟩, ta_thrown hI.2 hz hk⟩, _, rfl⟩) hI.2.2.2 hlocks)
abbrev q_Ro_localCount (dC : Nat → ClassId) (dI : Nat → Nat → Nat) (cI cJ : ClassId) (a : Nat → Nat) (he dp co li op wd tl lc fo : Int) (sf lf nf : Nat → Int32) : Outcome → State → Prop := fun o t => (∀ v, o = .returned v → ((∃ (z : Int32), v = some (.int z) ∧ okC he dp co li op wd tl lc fo sf lf nf ∧ (0 ≤ z.toInt) ∧ (z.toInt ≤ 15) ∧ (z.toInt = (nf dp.toNat).toInt) ∧ sh_I (dC, dI) vcl cI cJ (gsC a he dp co li op wd tl lc fo sf lf nf) t.heap))) ∧ (∀ x, o = .threw x → (False))
def rm_Ro_localCount : Room := { frames := 0, cells := 0, slots := 0, locals := 0 }
set_option maxHeartbeats 4000000 in
set_option maxRecDepth 100000 in
theorem c_Ro_localCount (l : Launch) (hfl : l.flags = pinnedFlags ++ [noTraceFlag]) (dC : Nat → ClassId) (dI : Nat → Nat → Nat) (cI cJ : ClassId) (a : Nat → Nat) (sz : Nat) (he dp co li op wd tl lc fo : Int) (sf lf nf : Nat → Int32) (hok : okC he dp co li op wd tl lc fo sf lf nf) : tz_Met l ⟨"StoryMachine$Routines", "localCount", "()I"⟩ tw_tbl rm_Ro_localCount (tzP (dC, dI) vcl cI cJ (gsC a he dp co li op wd tl lc fo sf lf nf) a (adC a) [.ref (a 3)] sz) (tq_Q (q_Ro_localCount dC dI cI cJ a he dp co li op wd tl lc fo sf lf nf) (ga (adC a) sz)) 0 0 0 0 (ga (adC a) sz) := by
  refine tz_ofW (cc := prog_9_method_7_code) (maxL := 1) (ret := (some .int)) (by decide) (tx_isM mw_1055) ?_
  intro p e s m args below meth c s₁ B hml hv
  obtain ⟨rfl, hsz, hI0, hK, hst0⟩ := hv
  have hx := B.exec
  have hb := B.bytes
  have hr := B.returns
  have hts := atoms_spec (ws := tw_tbl) B.pre
  have hown : s.vm.findClass "StoryMachine$Routines" = some m.cls := findClass_of_methodNamed B.named
  have hlocks := B.notSynchronized
  subst hsz
  have hst := fun (H : Heap) (locs : List Loc) (hS : va_S (ga (adC a) s.heap.size) s.heap H locs) (U : State) (hU : U.heap = H) (hW : s.WarmedH U.vm) => zS_all adC_map hI0 hst0 hS hU hW
  have hAC : ∀ q ∈ adC a, ga (adC a) s.heap.size q := fun q h => Or.inl h
  have hA0 : ∀ q, s.heap.size ≤ q → ga (adC a) s.heap.size q := fun q h => Or.inr h
  have hI : sI (dC, dI) vcl cI cJ (gsC a he dp co li op wd tl lc fo sf lf nf) (ga (adC a) s.heap.size) s.heap s.heap [] := ⟨hI0, va_S.rf⟩
  clear hI0 hst0
  have hl := lv_entry ([.ref (a 3)]) (n := 1) (Nat.le_of_ble_eq_true rfl)
  rw [lg_entry_eq]
  generalize (lg_sl ([.ref (a 3)]) ++ List.replicate (1 - (lg_sl ([.ref (a 3)])).length) Slot.unset).toArray = ls at hl ⊢
  have hl : lv_has ls 1 [(0, .ref (a 3))] := hl
  generalize hZ : tz_MQ below (tq_Q (q_Ro_localCount dC dI cI cJ a he dp co li op wd tl lc fo sf lf nf) (ga (adC a) s.heap.size)) ([.ref (a 3)] : List Value).toArray s 0 0 0 0 (ga (adC a) s.heap.size) = Z
  obtain ⟨A, hAe⟩ : ∃ A, A = ga (adC a) s.heap.size := ⟨_, rfl⟩
  rw [← hAe] at hst hAC hA0 hI hZ
  refine sv_start hI (fun H locs hI => ?_)
  obtain ⟨⟨o1, o2⟩, ⟨o3, o4⟩, ⟨o5, o6⟩, ⟨o7, o8⟩, ⟨o9, o10⟩, ⟨o11, o12⟩, ⟨o13, o14⟩, ⟨o15, o16⟩, ⟨o17, o18⟩, o19, -, -⟩ := id hok
  refine lv_aload_n hx hb d_Ro_localCount_0 rfl (lv_at hl 0 rfl) ?_
  refine sv_getr (C := "StoryMachine$Routines") (T := T_Ro) (N := 8) hx hb hts in_Ro hown hK hI 3 kC_3 rfl 6 (by decide) (hts _ mw_89) rfl d_Ro_localCount_1 ?_
  refine lv_aload_n hx hb d_Ro_localCount_4 rfl (lv_at hl 0 rfl) ?_
  refine sv_gete (C := "StoryMachine$Routines") (T := T_Ro) (N := 8) hx hb hts in_Ro hown hK hI 3 kC_3 rfl 2 (by decide) (hts _ mw_84) rfl d_Ro_localCount_5 (fun z20 hz20 => ?_)
  refine sv_ialde hx hb hK hI 13 kC_13 (by omega) (by omega) d_Ro_localCount_8 (fun z21 hz21 => ?_)
  have hz21r := hok.2.2.2.2.2.2.2.2.2.2.2 (z20.toNatClampNeg)
  rw [← hz21] at hz21r
  have hz21x : z21.toInt = (nf z20.toInt.toNat).toInt := by rw [hz21]; rfl
  rw [hz20] at hz21x
  subst hZ
  exact tz_ret (W.iret (v := z21) hx hb hr (fun t ht hW => ⟨⟨fun v9 hv9 => by cases hv9; exact (⟨z21, rfl, hok, by omega, by omega, by omega, by rw [ht]; exact hI.1⟩), fun x9 hx9 => (by cases hx9)⟩, hI.2.F ht⟩) hI.2.2.2 d_Ro_localCount_9)
abbrev q_Ro_localValue (dC : Nat → ClassId) (dI : Nat → Nat → Nat) (cI cJ : ClassId) (a : Nat → Nat) (he dp co li op wd tl lc fo : Int) (sf lf nf : Nat → Int32) (x1 : Int32) : Outcome → State → Prop := fun o t => (∀ v, o = .returned v → ((∃ (z : Int32), v = some (.int z) ∧ okC he dp co li op wd tl lc fo sf lf nf ∧ (0 ≤ z.toInt) ∧ (z.toInt ≤ 65535) ∧ (1 ≤ x1.toInt) ∧ (x1.toInt ≤ 15) ∧ sh_I (dC, dI) vcl cI cJ (gsC a he dp co li op wd tl lc fo sf lf nf) t.heap))) ∧ (∀ x, o = .threw x → ((ta_Ex "java/lang/IllegalArgumentException" x t ∧ okC he dp co li op wd tl lc fo sf lf nf ∧ sh_I (dC, dI) vcl cI cJ (gsC a he dp co li op wd tl lc fo sf lf nf) t.heap)))
def rm_Ro_localValue : Room := { frames := 7, cells := 1, slots := 6, locals := 130 }
set_option maxHeartbeats 4000000 in
set_option maxRecDepth 100000 in
theorem c_Ro_localValue (l : Launch) (hfl : l.flags = pinnedFlags ++ [noTraceFlag]) (dC : Nat → ClassId) (dI : Nat → Nat → Nat) (cI cJ : ClassId) (a : Nat → Nat) (sz : Nat) (he dp co li op wd tl lc fo : Int) (sf lf nf : Nat → Int32) (x1 : Int32) (hok : okC he dp co li op wd tl lc fo sf lf nf) : tz_Met l ⟨"StoryMachine$Routines", "localValue", "(I)I"⟩ tw_tbl rm_Ro_localValue (tzP (dC, dI) vcl cI cJ (gsC a he dp co li op wd tl lc fo sf lf nf) a (adC a) [.ref (a 3), .int x1] sz) (tq_Q (q_Ro_localValue dC dI cI cJ a he dp co li op wd tl lc fo sf lf nf x1) (ga (adC a) sz)) 0 0 1 6 (ga (adC a) sz) := by
  refine tz_ofW (cc := prog_9_method_8_code) (maxL := 2) (ret := (some .int)) (by decide) (tx_isM mw_553) ?_
  intro p e s m args below meth c s₁ B hml hv
  obtain ⟨rfl, hsz, hI0, hK, hst0⟩ := hv
  have hx := B.exec
  have hb := B.bytes
  have hr := B.returns
  have hts := atoms_spec (ws := tw_tbl) B.pre
  have hown : s.vm.findClass "StoryMachine$Routines" = some m.cls := findClass_of_methodNamed B.named
  have hlocks := B.notSynchronized
  subst hsz
  have hst := fun (H : Heap) (locs : List Loc) (hS : va_S (ga (adC a) s.heap.size) s.heap H locs) (U : State) (hU : U.heap = H) (hW : s.WarmedH U.vm) => zS_all adC_map hI0 hst0 hS hU hW
  have hAC : ∀ q ∈ adC a, ga (adC a) s.heap.size q := fun q h => Or.inl h
  have hA0 : ∀ q, s.heap.size ≤ q → ga (adC a) s.heap.size q := fun q h => Or.inr h
  have hI : sI (dC, dI) vcl cI cJ (gsC a he dp co li op wd tl lc fo sf lf nf) (ga (adC a) s.heap.size) s.heap s.heap [] := ⟨hI0, va_S.rf⟩
  clear hI0 hst0
  have hl := lv_entry ([.ref (a 3), .int x1]) (n := 2) (Nat.le_of_ble_eq_true rfl)
  rw [lg_entry_eq]
  generalize (lg_sl ([.ref (a 3), .int x1]) ++ List.replicate (2 - (lg_sl ([.ref (a 3), .int x1])).length) Slot.unset).toArray = ls at hl ⊢
  have hl : lv_has ls 2 [(0, .ref (a 3)), (1, .int x1)] := hl
  generalize hZ : tz_MQ below (tq_Q (q_Ro_localValue dC dI cI cJ a he dp co li op wd tl lc fo sf lf nf x1) (ga (adC a) s.heap.size)) ([.ref (a 3), .int x1] : List Value).toArray s 0 0 1 6 (ga (adC a) s.heap.size) = Z
  obtain ⟨A, hAe⟩ : ∃ A, A = ga (adC a) s.heap.size := ⟨_, rfl⟩
  rw [← hAe] at hst hAC hA0 hI hZ
  refine sv_start hI (fun H locs hI => ?_)
  obtain ⟨⟨o1, o2⟩, ⟨o3, o4⟩, ⟨o5, o6⟩, ⟨o7, o8⟩, ⟨o9, o10⟩, ⟨o11, o12⟩, ⟨o13, o14⟩, ⟨o15, o16⟩, ⟨o17, o18⟩, o19, -, -⟩ := id hok
  have gx1 := sn_rng x1
  have j18 : ∀ (H : Heap) (locs : List Loc) (ls : Array Slot), sI (dC, dI) vcl cI cJ (gsC a he dp co li op wd tl lc fo sf lf nf) A s.heap H locs → okC he dp co li op wd tl lc fo sf lf nf → lv_has ls 2 [(0, .ref (a 3)), (1, .int x1)] → W p l e (headSpec tw_tbl rm_Ro_localValue).room s m ([.ref (a 3), .int x1] : List Value).toArray below meth c H locs 0 0 Z (F0 m 18 ls []) := by
    intro H locs ls hI hok hl
    obtain ⟨⟨o20, o21⟩, ⟨o22, o23⟩, ⟨o24, o25⟩, ⟨o26, o27⟩, ⟨o28, o29⟩, ⟨o30, o31⟩, ⟨o32, o33⟩, ⟨o34, o35⟩, ⟨o36, o37⟩, o38, -, -⟩ := id hok
    refine W.widen (k := 0) (n := 0) (Nat.le_of_ble_eq_true rfl) (Nat.le_of_ble_eq_true rfl) ?_
    subst hZ
    exact tz_thrown (tth_Ro_IllegalArgumentException hx hb hfl hown hts (fun U hU hW => (hst _ _ hI.2 U hU hW).1) (by rw [hml]; exact hl.1) d_Ro_localValue_18 d_Ro_localValue_21 d_Ro_localValue_22 d_Ro_localValue_25 (tx_noH B (hts _ mw_553) _) (Nat.le_of_ble_eq_true rfl) (Nat.le_of_ble_eq_true rfl) (Nat.le_of_ble_eq_true rfl) (Nat.le_of_ble_eq_true rfl) (fun t ce hW hz hk hce hcl hvm => ⟨⟨⟨fun v9 hv9 => (by cases hv9), fun x9 hx9 => by cases hx9; exact (⟨⟨ce, hce, hcl, hvm⟩, hok, sh_kept hI.1 hk⟩)⟩, ta_thrown hI.2 hz hk⟩, _, rfl⟩) hI.2.2.2 hlocks)
  refine lv_iload_n hx hb d_Ro_localValue_0 rfl (lv_at hl 1 rfl) ?_
  refine sn_iconst hx hb d_Ro_localValue_1 (by decide) (fun z39 hz39 => ?_)
  refine sn_icmp_lt (tgt := 18) hx hb d_Ro_localValue_2 (by decide) (fun b40 => ?_) (fun b40 => ?_)
  · exact j18 _ _ _  hI hok (lv_sub hl [0, 1] rfl)
  · refine lv_iload_n hx hb d_Ro_localValue_5 rfl (lv_at hl 1 rfl) ?_
    refine lv_aload_n hx hb d_Ro_localValue_6 rfl (lv_at hl 0 rfl) ?_
    refine sv_getr (C := "StoryMachine$Routines") (T := T_Ro) (N := 8) hx hb hts in_Ro hown hK hI 3 kC_3 rfl 6 (by decide) (hts _ mw_89) rfl d_Ro_localValue_7 ?_
    refine lv_aload_n hx hb d_Ro_localValue_10 rfl (lv_at hl 0 rfl) ?_
    refine sv_gete (C := "StoryMachine$Routines") (T := T_Ro) (N := 8) hx hb hts in_Ro hown hK hI 3 kC_3 rfl 2 (by decide) (hts _ mw_84) rfl d_Ro_localValue_11 (fun z41 hz41 => ?_)
    refine sv_ialde hx hb hK hI 13 kC_13 (by omega) (by omega) d_Ro_localValue_14 (fun z42 hz42 => ?_)
    have hz42r := hok.2.2.2.2.2.2.2.2.2.2.2 (z41.toNatClampNeg)
    rw [← hz42] at hz42r
    have hz42x : z42.toInt = (nf z41.toInt.toNat).toInt := by rw [hz42]; rfl
    rw [hz41] at hz42x
    refine sn_icmp_le (tgt := 26) hx hb d_Ro_localValue_15 (by decide) (fun b43 => ?_) (fun b43 => ?_)
    · refine lv_aload_n hx hb d_Ro_localValue_26 rfl (lv_at hl 0 rfl) ?_
      refine sv_getr (C := "StoryMachine$Routines") (T := T_Ro) (N := 8) hx hb hts in_Ro hown hK hI 3 kC_3 rfl 7 (by decide) (hts _ mw_90) rfl d_Ro_localValue_27 ?_
      refine lv_aload_n hx hb d_Ro_localValue_30 rfl (lv_at hl 0 rfl) ?_
      refine sv_gete (C := "StoryMachine$Routines") (T := T_Ro) (N := 8) hx hb hts in_Ro hown hK hI 3 kC_3 rfl 2 (by decide) (hts _ mw_84) rfl d_Ro_localValue_31 (fun z44 hz44 => ?_)
      refine sn_bipush hx hb d_Ro_localValue_34 (by decide) (fun z45 hz45 => ?_)
      refine sn_imulR (k := 15) hx hb d_Ro_localValue_36 (by omega) (by omega) (by omega) (fun z46 hz46 => ?_)
      refine lv_iload_n hx hb d_Ro_localValue_37 rfl (lv_at hl 1 rfl) ?_
      refine sn_iadd hx hb d_Ro_localValue_38 (by omega) (by omega) (fun z47 hz47 => ?_)
      refine sn_iconst hx hb d_Ro_localValue_39 (by decide) (fun z48 hz48 => ?_)
      refine sn_isub hx hb d_Ro_localValue_40 (by omega) (by omega) (fun z49 hz49 => ?_)
      refine sv_ialdr hx hb hK hI 14 kC_14 (by omega) (by omega) d_Ro_localValue_41 (fun z50 hz50a hz50b => ?_)
      subst hZ
      exact tz_ret (W.iret (v := z50) hx hb hr (fun t ht hW => ⟨⟨fun v9 hv9 => by cases hv9; exact (⟨z50, rfl, hok, by omega, by omega, by omega, by omega, by rw [ht]; exact hI.1⟩), fun x9 hx9 => (by cases hx9)⟩, hI.2.F ht⟩) hI.2.2.2 d_Ro_localValue_42)
    · exact j18 _ _ _  hI hok (lv_sub hl [0, 1] rfl)
