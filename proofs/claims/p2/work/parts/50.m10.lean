abbrev q_Di_addWord (dC : Nat → ClassId) (dI : Nat → Nat → Nat) (cI cJ : ClassId) (a : Nat → Nat) (he dp co li op wd tl lc fo : Int) (sf lf nf : Nat → Int32) (x1 : Int32) (x2 : Int32) : Outcome → State → Prop := fun o t => (∀ v, o = .returned v → ((∃ (wd_ : Int) (sf_ lf_ : Nat → Int32), v = none ∧ okC he dp co li op wd_ tl lc fo sf_ lf_ nf ∧ sh_I (dC, dI) vcl cI cJ (gsC a he dp co li op wd_ tl lc fo sf_ lf_ nf) t.heap))) ∧ (∀ x, o = .threw x → (False))
def rm_Di_addWord : Room := { frames := 0, cells := 0, slots := 0, locals := 0 }
set_option maxHeartbeats 4000000 in
set_option maxRecDepth 100000 in
theorem c_Di_addWord (l : Launch) (hfl : l.flags = pinnedFlags ++ [noTraceFlag]) (dC : Nat → ClassId) (dI : Nat → Nat → Nat) (cI cJ : ClassId) (a : Nat → Nat) (sz : Nat) (he dp co li op wd tl lc fo : Int) (sf lf nf : Nat → Int32) (x1 : Int32) (x2 : Int32) (hok : okC he dp co li op wd tl lc fo sf lf nf) (hp0 : 0 ≤ x1.toInt) (hp1 : x1.toInt ≤ 24) (hp2 : 0 ≤ x2.toInt) (hp3 : x2.toInt ≤ 24) : tz_Met l ⟨"StoryMachine$Dictionary", "addWord", "(II)V"⟩ tw_tbl rm_Di_addWord (tzP (dC, dI) vcl cI cJ (gsC a he dp co li op wd tl lc fo sf lf nf) a (adC a) [.ref (a 18), .int x1, .int x2] sz) (tq_Q (q_Di_addWord dC dI cI cJ a he dp co li op wd tl lc fo sf lf nf x1 x2) (ga (adC a) sz)) 0 0 0 0 (ga (adC a) sz) := by
  refine tz_ofW (cc := prog_3_method_3_code) (maxL := 3) (ret := none) (by decide) (tx_isM mw_910) ?_
  intro p e s m args below meth c s₁ B hml hv
  obtain ⟨rfl, hsz, hI0, hK, hst0⟩ := hv
  have hx := B.exec
  have hb := B.bytes
  have hr := B.returns
  have hts := atoms_spec (ws := tw_tbl) B.pre
  have hown : s.vm.findClass "StoryMachine$Dictionary" = some m.cls := findClass_of_methodNamed B.named
  have hlocks := B.notSynchronized
  subst hsz
  have hst := fun (H : Heap) (locs : List Loc) (hS : va_S (ga (adC a) s.heap.size) s.heap H locs) (U : State) (hU : U.heap = H) (hW : s.WarmedH U.vm) => zS_all adC_map hI0 hst0 hS hU hW
  have hAC : ∀ q ∈ adC a, ga (adC a) s.heap.size q := fun q h => Or.inl h
  have hA0 : ∀ q, s.heap.size ≤ q → ga (adC a) s.heap.size q := fun q h => Or.inr h
  have hI : sI (dC, dI) vcl cI cJ (gsC a he dp co li op wd tl lc fo sf lf nf) (ga (adC a) s.heap.size) s.heap s.heap [] := ⟨hI0, va_S.rf⟩
  clear hI0 hst0
  have hl := lv_entry ([.ref (a 18), .int x1, .int x2]) (n := 3) (Nat.le_of_ble_eq_true rfl)
  rw [lg_entry_eq]
  generalize (lg_sl ([.ref (a 18), .int x1, .int x2]) ++ List.replicate (3 - (lg_sl ([.ref (a 18), .int x1, .int x2])).length) Slot.unset).toArray = ls at hl ⊢
  have hl : lv_has ls 3 [(0, .ref (a 18)), (1, .int x1), (2, .int x2)] := hl
  generalize hZ : tz_MQ below (tq_Q (q_Di_addWord dC dI cI cJ a he dp co li op wd tl lc fo sf lf nf x1 x2) (ga (adC a) s.heap.size)) ([.ref (a 18), .int x1, .int x2] : List Value).toArray s 0 0 0 0 (ga (adC a) s.heap.size) = Z
  obtain ⟨A, hAe⟩ : ∃ A, A = ga (adC a) s.heap.size := ⟨_, rfl⟩
  rw [← hAe] at hst hAC hA0 hI hZ
  refine sv_start hI (fun H locs hI => ?_)
  obtain ⟨⟨o1, o2⟩, ⟨o3, o4⟩, ⟨o5, o6⟩, ⟨o7, o8⟩, ⟨o9, o10⟩, ⟨o11, o12⟩, ⟨o13, o14⟩, ⟨o15, o16⟩, ⟨o17, o18⟩, o19, -, -⟩ := id hok
  have gx1 := sn_rng x1
  have gx2 := sn_rng x2
  refine lv_iload_n hx hb d_Di_addWord_0 rfl (lv_at hl 1 rfl) ?_
  refine lv_iload_n hx hb d_Di_addWord_1 rfl (lv_at hl 2 rfl) ?_
  refine sn_icmp_ge (tgt := 46) hx hb d_Di_addWord_2 (by decide) (fun b20 => ?_) (fun b20 => ?_)
  · subst hZ
    exact tz_ret (W.vret hx hb hr (fun t ht hW => ⟨⟨fun v9 hv9 => by cases hv9; exact (⟨wd, sf, lf, rfl, hok, by rw [ht]; exact hI.1⟩), fun x9 hx9 => (by cases hx9)⟩, hI.2.F ht⟩) hI.2.2.2 d_Di_addWord_46)
  · refine lv_aload_n hx hb d_Di_addWord_5 rfl (lv_at hl 0 rfl) ?_
    refine sv_gete (C := "StoryMachine$Dictionary") (T := T_Di) (N := 6) hx hb hts in_Di hown hK hI 18 kC_18 rfl 3 (by decide) (hts _ mw_196) rfl d_Di_addWord_6 (fun z21 hz21 => ?_)
    refine sn_bipush hx hb d_Di_addWord_9 (by decide) (fun z22 hz22 => ?_)
    refine sn_icmp_ge (tgt := 46) hx hb d_Di_addWord_11 (by decide) (fun b23 => ?_) (fun b23 => ?_)
    · subst hZ
      exact tz_ret (W.vret hx hb hr (fun t ht hW => ⟨⟨fun v9 hv9 => by cases hv9; exact (⟨wd, sf, lf, rfl, hok, by rw [ht]; exact hI.1⟩), fun x9 hx9 => (by cases hx9)⟩, hI.2.F ht⟩) hI.2.2.2 d_Di_addWord_46)
    · refine lv_aload_n hx hb d_Di_addWord_14 rfl (lv_at hl 0 rfl) ?_
      refine sv_getr (C := "StoryMachine$Dictionary") (T := T_Di) (N := 6) hx hb hts in_Di hown hK hI 18 kC_18 rfl 1 (by decide) (hts _ mw_192) rfl d_Di_addWord_15 ?_
      refine lv_aload_n hx hb d_Di_addWord_18 rfl (lv_at hl 0 rfl) ?_
      refine sv_gete (C := "StoryMachine$Dictionary") (T := T_Di) (N := 6) hx hb hts in_Di hown hK hI 18 kC_18 rfl 3 (by decide) (hts _ mw_196) rfl d_Di_addWord_19 (fun z24 hz24 => ?_)
      refine lv_iload_n hx hb d_Di_addWord_22 rfl (lv_at hl 1 rfl) ?_
      refine sv_iast hx hb hK (sh_in adC_map hAC) hI 22 kC_22 (P' := fun g => g = upd sf (z24.toNatClampNeg) x1) (by omega) (by omega) (fun g hg => by rw [hg]) pC_22 d_Di_addWord_23 (fun H locs hI => ?_)
      obtain ⟨f25, hf25⟩ : ∃ z : Nat → Int32, z = upd sf (z24.toNatClampNeg) x1 := ⟨_, rfl⟩
      rw [← hf25] at hI
      refine lv_aload_n hx hb d_Di_addWord_24 rfl (lv_at hl 0 rfl) ?_
      refine sv_getr (C := "StoryMachine$Dictionary") (T := T_Di) (N := 6) hx hb hts in_Di hown hK hI 18 kC_18 rfl 2 (by decide) (hts _ mw_194) rfl d_Di_addWord_25 ?_
      refine lv_aload_n hx hb d_Di_addWord_28 rfl (lv_at hl 0 rfl) ?_
      refine sv_gete (C := "StoryMachine$Dictionary") (T := T_Di) (N := 6) hx hb hts in_Di hown hK hI 18 kC_18 rfl 3 (by decide) (hts _ mw_196) rfl d_Di_addWord_29 (fun z26 hz26 => ?_)
      refine lv_iload_n hx hb d_Di_addWord_32 rfl (lv_at hl 2 rfl) ?_
      refine lv_iload_n hx hb d_Di_addWord_33 rfl (lv_at hl 1 rfl) ?_
      refine sn_isub hx hb d_Di_addWord_34 (by omega) (by omega) (fun z27 hz27 => ?_)
      refine sv_iast hx hb hK (sh_in adC_map hAC) hI 23 kC_23 (P' := fun g => g = upd lf (z26.toNatClampNeg) z27) (by omega) (by omega) (fun g hg => by rw [hg]) pC_23 d_Di_addWord_35 (fun H locs hI => ?_)
      obtain ⟨f28, hf28⟩ : ∃ z : Nat → Int32, z = upd lf (z26.toNatClampNeg) z27 := ⟨_, rfl⟩
      rw [← hf28] at hI
      have rf28 : slw f25 f28 := by rw [hf25, hf28]; exact slw_upd hok.2.2.2.2.2.2.2.2.2.2.1 (by omega) (by omega) (by omega) (by omega)
      refine lv_aload_n hx hb d_Di_addWord_36 rfl (lv_at hl 0 rfl) ?_
      refine lv_dup hx hb d_Di_addWord_37 rfl ?_
      refine sv_gete (C := "StoryMachine$Dictionary") (T := T_Di) (N := 6) hx hb hts in_Di hown hK hI 18 kC_18 rfl 3 (by decide) (hts _ mw_196) rfl d_Di_addWord_38 (fun z29 hz29 => ?_)
      refine sn_iconst hx hb d_Di_addWord_41 (by decide) (fun z30 hz30 => ?_)
      refine sn_iadd hx hb d_Di_addWord_42 (by omega) (by omega) (fun z31 hz31 => ?_)
      refine sv_put (C := "StoryMachine$Dictionary") (T := T_Di) (N := 6) (ty := .int) hx hb hts in_Di t_Di tk_Di nm_Di hown hK (sh_in adC_map hAC) hI 18 kC_18 rfl 3 (by decide) (hts _ mw_196) rfl (by decide +kernel) rfl rfl (Nat.le_of_ble_eq_true rfl) (Int.le_refl _) (Int.le_refl _) pC_18_3 d_Di_addWord_43 (fun H locs hI => ?_)
      have ho32 : okC he dp co li op z31.toInt tl lc fo f25 f28 nf := ⟨hok.1, hok.2.1, hok.2.2.1, hok.2.2.2.1, hok.2.2.2.2.1, ⟨by omega, by omega⟩, hok.2.2.2.2.2.2.1, hok.2.2.2.2.2.2.2.1, hok.2.2.2.2.2.2.2.2.1, hok.2.2.2.2.2.2.2.2.2.1, rf28, hok.2.2.2.2.2.2.2.2.2.2.2⟩
      subst hZ
      exact tz_ret (W.vret hx hb hr (fun t ht hW => ⟨⟨fun v9 hv9 => by cases hv9; exact (⟨z31.toInt, f25, f28, rfl, ho32, by rw [ht]; exact hI.1⟩), fun x9 hx9 => (by cases hx9)⟩, hI.2.F ht⟩) hI.2.2.2 d_Di_addWord_46)
abbrev q_Di_split (dC : Nat → ClassId) (dI : Nat → Nat → Nat) (cI cJ : ClassId) (a : Nat → Nat) (he dp co li op wd tl lc fo : Int) (sf lf nf : Nat → Int32) (x2 : Int32) : Outcome → State → Prop := fun o t => (∀ v, o = .returned v → ((∃ (wd_ : Int) (sf_ lf_ : Nat → Int32), v = none ∧ okC he dp co li op wd_ tl lc fo sf_ lf_ nf ∧ sh_I (dC, dI) vcl cI cJ (gsC a he dp co li op wd_ tl lc fo sf_ lf_ nf) t.heap))) ∧ (∀ x, o = .threw x → ((∃ (wd_ : Int) (sf_ lf_ : Nat → Int32), ta_Ex "java/lang/IllegalArgumentException" x t ∧ okC he dp co li op wd_ tl lc fo sf_ lf_ nf ∧ (1 ≤ x2.toInt) ∧ sh_I (dC, dI) vcl cI cJ (gsC a he dp co li op wd_ tl lc fo sf_ lf_ nf) t.heap)))
def rm_Di_split : Room := { frames := 9, cells := 1, slots := 6, locals := 175 }
set_option maxHeartbeats 4000000 in
set_option maxRecDepth 100000 in
theorem c_Di_split (l : Launch) (hfl : l.flags = pinnedFlags ++ [noTraceFlag]) (dC : Nat → ClassId) (dI : Nat → Nat → Nat) (cI cJ : ClassId) (a : Nat → Nat) (sz : Nat) (he dp co li op wd tl lc fo : Int) (sf lf nf : Nat → Int32) (x2 : Int32) (hok : okC he dp co li op wd tl lc fo sf lf nf) (hp0 : 0 ≤ x2.toInt) (hp1 : x2.toInt ≤ 24) : tz_Met l ⟨"StoryMachine$Dictionary", "split", "([II)V"⟩ tw_tbl rm_Di_split (tzP (dC, dI) vcl cI cJ (gsC a he dp co li op wd tl lc fo sf lf nf) a (adC a) [.ref (a 18), .ref (a 8), .int x2] sz) (tq_Q (q_Di_split dC dI cI cJ a he dp co li op wd tl lc fo sf lf nf x2) (ga (adC a) sz)) 0 0 1 6 (ga (adC a) sz) := by
  refine tz_ofW (cc := prog_3_method_2_code) (maxL := 6) (ret := none) (by decide) (tx_isM mw_900) ?_
  intro p e s m args below meth c s₁ B hml hv
  obtain ⟨rfl, hsz, hI0, hK, hst0⟩ := hv
  have hx := B.exec
  have hb := B.bytes
  have hr := B.returns
  have hts := atoms_spec (ws := tw_tbl) B.pre
  have hown : s.vm.findClass "StoryMachine$Dictionary" = some m.cls := findClass_of_methodNamed B.named
  have hlocks := B.notSynchronized
  subst hsz
  have hst := fun (H : Heap) (locs : List Loc) (hS : va_S (ga (adC a) s.heap.size) s.heap H locs) (U : State) (hU : U.heap = H) (hW : s.WarmedH U.vm) => zS_all adC_map hI0 hst0 hS hU hW
  have hAC : ∀ q ∈ adC a, ga (adC a) s.heap.size q := fun q h => Or.inl h
  have hA0 : ∀ q, s.heap.size ≤ q → ga (adC a) s.heap.size q := fun q h => Or.inr h
  have hI : sI (dC, dI) vcl cI cJ (gsC a he dp co li op wd tl lc fo sf lf nf) (ga (adC a) s.heap.size) s.heap s.heap [] := ⟨hI0, va_S.rf⟩
  clear hI0 hst0
  have hl := lv_entry ([.ref (a 18), .ref (a 8), .int x2]) (n := 6) (Nat.le_of_ble_eq_true rfl)
  rw [lg_entry_eq]
  generalize (lg_sl ([.ref (a 18), .ref (a 8), .int x2]) ++ List.replicate (6 - (lg_sl ([.ref (a 18), .ref (a 8), .int x2])).length) Slot.unset).toArray = ls at hl ⊢
  have hl : lv_has ls 6 [(0, .ref (a 18)), (1, .ref (a 8)), (2, .int x2)] := hl
  generalize hZ : tz_MQ below (tq_Q (q_Di_split dC dI cI cJ a he dp co li op wd tl lc fo sf lf nf x2) (ga (adC a) s.heap.size)) ([.ref (a 18), .ref (a 8), .int x2] : List Value).toArray s 0 0 1 6 (ga (adC a) s.heap.size) = Z
  obtain ⟨A, hAe⟩ : ∃ A, A = ga (adC a) s.heap.size := ⟨_, rfl⟩
  rw [← hAe] at hst hAC hA0 hI hZ
  refine sv_start hI (fun H locs hI => ?_)
  obtain ⟨⟨o1, o2⟩, ⟨o3, o4⟩, ⟨o5, o6⟩, ⟨o7, o8⟩, ⟨o9, o10⟩, ⟨o11, o12⟩, ⟨o13, o14⟩, ⟨o15, o16⟩, ⟨o17, o18⟩, o19, -, -⟩ := id hok
  have gx2 := sn_rng x2
  have j10 : ∀ (n : Nat) (H : Heap) (locs : List Loc) (ls : Array Slot) (v10_3 v10_4 : Int32) (t10_wd : Int) (t10_sf t10_lf : Nat → Int32), sI (dC, dI) vcl cI cJ (gsC a he dp co li op t10_wd tl lc fo t10_sf t10_lf nf) A s.heap H locs → okC he dp co li op t10_wd tl lc fo t10_sf t10_lf nf → 0 ≤ v10_3.toInt → v10_3.toInt ≤ 24 → 0 ≤ v10_4.toInt → v10_4.toInt ≤ 24 → lv_has ls 6 [(0, .ref (a 18)), (1, .ref (a 8)), (2, .int x2), (3, .int v10_3), (4, .int v10_4)] → 24 - v10_4.toInt < (n : Int) → W p l e (headSpec tw_tbl rm_Di_split).room s m ([.ref (a 18), .ref (a 8), .int x2] : List Value).toArray below meth c H locs 0 0 Z (F0 m 10 ls []) := by
    intro n
    induction n with
    | zero => intro H locs ls v10_3 v10_4 t10_wd t10_sf t10_lf hI hok g10_0 g10_1 g10_2 g10_3 hl hme; exfalso; obtain ⟨⟨o20, o21⟩, ⟨o22, o23⟩, ⟨o24, o25⟩, ⟨o26, o27⟩, ⟨o28, o29⟩, ⟨o30, o31⟩, ⟨o32, o33⟩, ⟨o34, o35⟩, ⟨o36, o37⟩, o38, -, -⟩ := id hok; omega
    | succ n ih =>
      intro H locs ls v10_3 v10_4 t10_wd t10_sf t10_lf hI hok g10_0 g10_1 g10_2 g10_3 hl hme
      obtain ⟨⟨o39, o40⟩, ⟨o41, o42⟩, ⟨o43, o44⟩, ⟨o45, o46⟩, ⟨o47, o48⟩, ⟨o49, o50⟩, ⟨o51, o52⟩, ⟨o53, o54⟩, ⟨o55, o56⟩, o57, -, -⟩ := id hok
      have j80 : ∀ (H : Heap) (locs : List Loc) (ls : Array Slot) (v80_3 v80_5 : Int32) (t80_wd : Int) (t80_sf t80_lf : Nat → Int32), sI (dC, dI) vcl cI cJ (gsC a he dp co li op t80_wd tl lc fo t80_sf t80_lf nf) A s.heap H locs → okC he dp co li op t80_wd tl lc fo t80_sf t80_lf nf → 0 ≤ v80_3.toInt → v80_3.toInt ≤ 24 → 0 ≤ v80_5.toInt → v80_5.toInt ≤ 1 → v10_4.toInt ≤ 23 → 1 ≤ x2.toInt → lv_has ls 6 [(0, .ref (a 18)), (1, .ref (a 8)), (2, .int x2), (3, .int v80_3), (4, .int v10_4), (5, .int v80_5)] → W p l e (headSpec tw_tbl rm_Di_split).room s m ([.ref (a 18), .ref (a 8), .int x2] : List Value).toArray below meth c H locs 0 0 Z (F0 m 80 ls []) := by
        intro H locs ls v80_3 v80_5 t80_wd t80_sf t80_lf hI hok g80_0 g80_1 g80_2 g80_3 g80_4 g80_5 hl
        obtain ⟨⟨o58, o59⟩, ⟨o60, o61⟩, ⟨o62, o63⟩, ⟨o64, o65⟩, ⟨o66, o67⟩, ⟨o68, o69⟩, ⟨o70, o71⟩, ⟨o72, o73⟩, ⟨o74, o75⟩, o76, -, -⟩ := id hok
        refine sn_iinc (k := 4) hx hb d_Di_split_80 hl rfl (by decide) (by decide) (by omega) (by omega) (fun ls z77 hz77 hl => ?_)
        have hl : lv_has ls 6 [(4, .int z77), (0, .ref (a 18)), (1, .ref (a 8)), (2, .int x2), (3, .int v80_3), (5, .int v80_5)] := hl
        refine lv_goto (tgt := 10) hx hb d_Di_split_83 (by decide) ?_
        exact ih _ _ _ v80_3 z77 t80_wd t80_sf t80_lf hI hok (by omega) (by omega) (by omega) (by omega) (lv_sub hl [1, 2, 3, 4, 0] rfl) (by omega)
      have j48 : ∀ (H : Heap) (locs : List Loc) (ls : Array Slot) (v48_5 : Int32), sI (dC, dI) vcl cI cJ (gsC a he dp co li op t10_wd tl lc fo t10_sf t10_lf nf) A s.heap H locs → okC he dp co li op t10_wd tl lc fo t10_sf t10_lf nf → 0 ≤ v48_5.toInt → v48_5.toInt ≤ 1 → v10_4.toInt ≤ 23 → 1 ≤ x2.toInt → lv_has ls 6 [(0, .ref (a 18)), (1, .ref (a 8)), (2, .int x2), (3, .int v10_3), (4, .int v10_4), (5, .int v48_5)] → W p l e (headSpec tw_tbl rm_Di_split).room s m ([.ref (a 18), .ref (a 8), .int x2] : List Value).toArray below meth c H locs 0 0 Z (F0 m 48 ls []) := by
        intro H locs ls v48_5 hI hok g48_0 g48_1 g48_2 g48_3 hl
        obtain ⟨⟨o78, o79⟩, ⟨o80, o81⟩, ⟨o82, o83⟩, ⟨o84, o85⟩, ⟨o86, o87⟩, ⟨o88, o89⟩, ⟨o90, o91⟩, ⟨o92, o93⟩, ⟨o94, o95⟩, o96, -, -⟩ := id hok
        refine lv_aload_n hx hb d_Di_split_48 rfl (lv_at hl 0 rfl) ?_
        refine lv_iload_n hx hb d_Di_split_49 rfl (lv_at hl 3 rfl) ?_
        refine lv_iload hx hb d_Di_split_50 (lv_at hl 4 rfl) ?_
        refine tz_call (A1 := ga (adC a) H.size) (tz_runV (C := "StoryMachine$Dictionary") (As := [.int v10_3, .int v10_4]) (rest := []) ⟨hx, hb, hml, hown, hts⟩ (c_Di_addWord l hfl dC dI cI cJ a H.size he dp co li op t10_wd tl lc fo t10_sf t10_lf nf v10_3 v10_4 hok (by omega) (by omega) (by omega) (by omega)) (tx_cb (n := 2) hts rfl rfl ⟨Nat.le_of_ble_eq_true rfl, Nat.le_of_ble_eq_true rfl⟩ (tx_code.of (hts _ mw_910)) (hts _ mw_10) (by decide +kernel) (hts _ mw_907)) (hts _ mw_909) (hts _ ms_Di_addWord) ⟨tz_blind, sv_recv (q0 := 18) hts in_Di hK hI kC_18 rfl, fun U hU hW => ⟨rfl, by rw [hU], by rw [hU]; exact hI.1, va_K.moved hW.alike hK, hst _ _ hI.2 U hU hW⟩⟩ rfl rfl hl.1 rfl (lv_room (Nat.le_of_ble_eq_true rfl)) d_Di_split_52 ⟨Nat.le_of_ble_eq_true rfl, Nat.le_of_ble_eq_true rfl⟩) hI.2 (fun q _ h => ga_sub hAC hA0 hI.2 q h) (ga_sub hAC hA0 hI.2) (fun v t H1 locs1 ht hWt hpost _ _ hS => ?_) (fun x t H1 locs1 ht hWt hpost _ _ hS => (hpost.2 x rfl).elim)
        rcases hpost.1 _ rfl with ⟨t_wd97, f_sf98, f_lf99, hv, c100, hI1⟩
        cases hv
        have hI : sI (dC, dI) vcl cI cJ (gsC a he dp co li op t_wd97 tl lc fo f_sf98 f_lf99 nf) A s.heap H1 locs1 := ⟨by rw [← ht]; exact hI1, hS⟩
        obtain ⟨-, -, -, -, -, ⟨o101, o102⟩, -, -, -, -, -, -⟩ := id c100
        clear hpost hI1 hS ht hWt
        revert hI; generalize H1 = H; generalize locs1 = locs; intro hI
        refine lv_aload_n hx hb d_Di_split_55 rfl (lv_at hl 0 rfl) ?_
        refine lv_iload hx hb d_Di_split_56 (lv_at hl 4 rfl) ?_
        refine lv_iload hx hb d_Di_split_58 (lv_at hl 5 rfl) ?_
        refine sn_if_eq (tgt := 68) hx hb d_Di_split_60 (by decide) (fun b103 => ?_) (fun b103 => ?_)
        · refine lv_iload hx hb d_Di_split_68 (lv_at hl 4 rfl) ?_
          refine sn_iconst hx hb d_Di_split_70 (by decide) (fun z104 hz104 => ?_)
          refine sn_iadd hx hb d_Di_split_71 (by omega) (by omega) (fun z105 hz105 => ?_)
          refine tz_call (A1 := ga (adC a) H.size) (tz_runV (C := "StoryMachine$Dictionary") (As := [.int v10_4, .int z105]) (rest := []) ⟨hx, hb, hml, hown, hts⟩ (c_Di_addWord l hfl dC dI cI cJ a H.size he dp co li op t_wd97 tl lc fo f_sf98 f_lf99 nf v10_4 z105 c100 (by omega) (by omega) (by omega) (by omega)) (tx_cb (n := 2) hts rfl rfl ⟨Nat.le_of_ble_eq_true rfl, Nat.le_of_ble_eq_true rfl⟩ (tx_code.of (hts _ mw_910)) (hts _ mw_10) (by decide +kernel) (hts _ mw_907)) (hts _ mw_909) (hts _ ms_Di_addWord) ⟨tz_blind, sv_recv (q0 := 18) hts in_Di hK hI kC_18 rfl, fun U hU hW => ⟨rfl, by rw [hU], by rw [hU]; exact hI.1, va_K.moved hW.alike hK, hst _ _ hI.2 U hU hW⟩⟩ rfl rfl hl.1 rfl (lv_room (Nat.le_of_ble_eq_true rfl)) d_Di_split_72 ⟨Nat.le_of_ble_eq_true rfl, Nat.le_of_ble_eq_true rfl⟩) hI.2 (fun q _ h => ga_sub hAC hA0 hI.2 q h) (ga_sub hAC hA0 hI.2) (fun v t H1 locs1 ht hWt hpost _ _ hS => ?_) (fun x t H1 locs1 ht hWt hpost _ _ hS => (hpost.2 x rfl).elim)
          rcases hpost.1 _ rfl with ⟨t_wd106, f_sf107, f_lf108, hv, c109, hI1⟩
          cases hv
          have hI : sI (dC, dI) vcl cI cJ (gsC a he dp co li op t_wd106 tl lc fo f_sf107 f_lf108 nf) A s.heap H1 locs1 := ⟨by rw [← ht]; exact hI1, hS⟩
          obtain ⟨-, -, -, -, -, ⟨o110, o111⟩, -, -, -, -, -, -⟩ := id c109
          clear hpost hI1 hS ht hWt
          revert hI; generalize H1 = H; generalize locs1 = locs; intro hI
          refine lv_iload hx hb d_Di_split_75 (lv_at hl 4 rfl) ?_
          refine sn_iconst hx hb d_Di_split_77 (by decide) (fun z112 hz112 => ?_)
          refine sn_iadd hx hb d_Di_split_78 (by omega) (by omega) (fun z113 hz113 => ?_)
          refine lv_istore_n (lv' := [(3, .int z113), (0, .ref (a 18)), (1, .ref (a 8)), (2, .int x2), (4, .int v10_4), (5, .int v48_5)]) hx hb d_Di_split_79 rfl hl (by decide) rfl (fun ls hl => ?_)
          exact j80 _ _ _ z113 v48_5 t_wd106 f_sf107 f_lf108 hI c109 (by omega) (by omega) (by omega) (by omega) (by omega) (by omega) (lv_sub hl [1, 2, 3, 0, 4, 5] rfl)
        · refine lv_iload hx hb d_Di_split_63 (lv_at hl 4 rfl) ?_
          refine lv_goto (tgt := 72) hx hb d_Di_split_65 (by decide) ?_
          refine tz_call (A1 := ga (adC a) H.size) (tz_runV (C := "StoryMachine$Dictionary") (As := [.int v10_4, .int v10_4]) (rest := []) ⟨hx, hb, hml, hown, hts⟩ (c_Di_addWord l hfl dC dI cI cJ a H.size he dp co li op t_wd97 tl lc fo f_sf98 f_lf99 nf v10_4 v10_4 c100 (by omega) (by omega) (by omega) (by omega)) (tx_cb (n := 2) hts rfl rfl ⟨Nat.le_of_ble_eq_true rfl, Nat.le_of_ble_eq_true rfl⟩ (tx_code.of (hts _ mw_910)) (hts _ mw_10) (by decide +kernel) (hts _ mw_907)) (hts _ mw_909) (hts _ ms_Di_addWord) ⟨tz_blind, sv_recv (q0 := 18) hts in_Di hK hI kC_18 rfl, fun U hU hW => ⟨rfl, by rw [hU], by rw [hU]; exact hI.1, va_K.moved hW.alike hK, hst _ _ hI.2 U hU hW⟩⟩ rfl rfl hl.1 rfl (lv_room (Nat.le_of_ble_eq_true rfl)) d_Di_split_72 ⟨Nat.le_of_ble_eq_true rfl, Nat.le_of_ble_eq_true rfl⟩) hI.2 (fun q _ h => ga_sub hAC hA0 hI.2 q h) (ga_sub hAC hA0 hI.2) (fun v t H1 locs1 ht hWt hpost _ _ hS => ?_) (fun x t H1 locs1 ht hWt hpost _ _ hS => (hpost.2 x rfl).elim)
          rcases hpost.1 _ rfl with ⟨t_wd114, f_sf115, f_lf116, hv, c117, hI1⟩
          cases hv
          have hI : sI (dC, dI) vcl cI cJ (gsC a he dp co li op t_wd114 tl lc fo f_sf115 f_lf116 nf) A s.heap H1 locs1 := ⟨by rw [← ht]; exact hI1, hS⟩
          obtain ⟨-, -, -, -, -, ⟨o118, o119⟩, -, -, -, -, -, -⟩ := id c117
          clear hpost hI1 hS ht hWt
          revert hI; generalize H1 = H; generalize locs1 = locs; intro hI
          refine lv_iload hx hb d_Di_split_75 (lv_at hl 4 rfl) ?_
          refine sn_iconst hx hb d_Di_split_77 (by decide) (fun z120 hz120 => ?_)
          refine sn_iadd hx hb d_Di_split_78 (by omega) (by omega) (fun z121 hz121 => ?_)
          refine lv_istore_n (lv' := [(3, .int z121), (0, .ref (a 18)), (1, .ref (a 8)), (2, .int x2), (4, .int v10_4), (5, .int v48_5)]) hx hb d_Di_split_79 rfl hl (by decide) rfl (fun ls hl => ?_)
          exact j80 _ _ _ z121 v48_5 t_wd114 f_sf115 f_lf116 hI c117 (by omega) (by omega) (by omega) (by omega) (by omega) (by omega) (lv_sub hl [1, 2, 3, 0, 4, 5] rfl)
      refine lv_iload hx hb d_Di_split_10 (lv_at hl 4 rfl) ?_
      refine lv_iload_n hx hb d_Di_split_12 rfl (lv_at hl 2 rfl) ?_
      refine sn_icmp_ge (tgt := 86) hx hb d_Di_split_13 (by decide) (fun b122 => ?_) (fun b122 => ?_)
      · refine lv_aload_n hx hb d_Di_split_86 rfl (lv_at hl 0 rfl) ?_
        refine lv_iload_n hx hb d_Di_split_87 rfl (lv_at hl 3 rfl) ?_
        refine lv_iload_n hx hb d_Di_split_88 rfl (lv_at hl 2 rfl) ?_
        refine tz_call (A1 := ga (adC a) H.size) (tz_runV (C := "StoryMachine$Dictionary") (As := [.int v10_3, .int x2]) (rest := []) ⟨hx, hb, hml, hown, hts⟩ (c_Di_addWord l hfl dC dI cI cJ a H.size he dp co li op t10_wd tl lc fo t10_sf t10_lf nf v10_3 x2 hok (by omega) (by omega) (by omega) (by omega)) (tx_cb (n := 2) hts rfl rfl ⟨Nat.le_of_ble_eq_true rfl, Nat.le_of_ble_eq_true rfl⟩ (tx_code.of (hts _ mw_910)) (hts _ mw_10) (by decide +kernel) (hts _ mw_907)) (hts _ mw_909) (hts _ ms_Di_addWord) ⟨tz_blind, sv_recv (q0 := 18) hts in_Di hK hI kC_18 rfl, fun U hU hW => ⟨rfl, by rw [hU], by rw [hU]; exact hI.1, va_K.moved hW.alike hK, hst _ _ hI.2 U hU hW⟩⟩ rfl rfl hl.1 rfl (lv_room (Nat.le_of_ble_eq_true rfl)) d_Di_split_89 ⟨Nat.le_of_ble_eq_true rfl, Nat.le_of_ble_eq_true rfl⟩) hI.2 (fun q _ h => ga_sub hAC hA0 hI.2 q h) (ga_sub hAC hA0 hI.2) (fun v t H1 locs1 ht hWt hpost _ _ hS => ?_) (fun x t H1 locs1 ht hWt hpost _ _ hS => (hpost.2 x rfl).elim)
        rcases hpost.1 _ rfl with ⟨t_wd123, f_sf124, f_lf125, hv, c126, hI1⟩
        cases hv
        have hI : sI (dC, dI) vcl cI cJ (gsC a he dp co li op t_wd123 tl lc fo f_sf124 f_lf125 nf) A s.heap H1 locs1 := ⟨by rw [← ht]; exact hI1, hS⟩
        obtain ⟨-, -, -, -, -, ⟨o127, o128⟩, -, -, -, -, -, -⟩ := id c126
        clear hpost hI1 hS ht hWt
        revert hI; generalize H1 = H; generalize locs1 = locs; intro hI
        subst hZ
        exact tz_ret (W.vret hx hb hr (fun t ht hW => ⟨⟨fun v9 hv9 => by cases hv9; exact (⟨t_wd123, f_sf124, f_lf125, rfl, c126, by rw [ht]; exact hI.1⟩), fun x9 hx9 => (by cases hx9)⟩, hI.2.F ht⟩) hI.2.2.2 d_Di_split_92)
      · refine lv_aload_n hx hb d_Di_split_16 rfl (lv_at hl 1 rfl) ?_
        refine lv_iload hx hb d_Di_split_17 (lv_at hl 4 rfl) ?_
        refine sv_ialdr hx hb hK hI 8 kC_8 (by omega) (by omega) d_Di_split_19 (fun z129 hz129a hz129b => ?_)
        refine sn_bipush hx hb d_Di_split_20 (by decide) (fun z130 hz130 => ?_)
        refine sn_icmp_ne (tgt := 29) hx hb d_Di_split_22 (by decide) (fun b131 => ?_) (fun b131 => ?_)
        · refine sn_iconst hx hb d_Di_split_29 (by decide) (fun z132 hz132 => ?_)
          refine lv_istore (lv' := [(5, .int z132), (0, .ref (a 18)), (1, .ref (a 8)), (2, .int x2), (3, .int v10_3), (4, .int v10_4)]) hx hb d_Di_split_30 hl (by decide) rfl (fun ls hl => ?_)
          refine lv_iload hx hb d_Di_split_32 (lv_at hl 0 rfl) ?_
          refine sn_if_ne (tgt := 48) hx hb d_Di_split_34 (by decide) (fun b133 => ?_) (fun b133 => ?_)
          · omega
          · refine lv_aload_n hx hb d_Di_split_37 rfl (lv_at hl 1 rfl) ?_
            refine lv_aload_n hx hb d_Di_split_38 rfl (lv_at hl 2 rfl) ?_
            refine lv_iload hx hb d_Di_split_39 (lv_at hl 5 rfl) ?_
            refine sv_ialdr hx hb hK hI 8 kC_8 (by omega) (by omega) d_Di_split_41 (fun z134 hz134a hz134b => ?_)
            refine tz_call (A1 := ga (adC a) H.size) (tz_runV (C := "StoryMachine$Dictionary") (As := [.int z134]) (rest := []) ⟨hx, hb, hml, hown, hts⟩ (c_Di_isSeparator l hfl dC dI cI cJ a H.size he dp co li op t10_wd tl lc fo t10_sf t10_lf nf z134 hok) (tx_cb (n := 1) hts rfl rfl ⟨Nat.le_of_ble_eq_true rfl, Nat.le_of_ble_eq_true rfl⟩ (tx_code.of (hts _ mw_904)) (hts _ mw_10) (by decide +kernel) (hts _ mw_901)) (hts _ mw_903) (hts _ ms_Di_isSeparator) ⟨tz_blind, sv_recv (q0 := 18) hts in_Di hK hI kC_18 rfl, fun U hU hW => ⟨rfl, by rw [hU], by rw [hU]; exact hI.1, va_K.moved hW.alike hK, hst _ _ hI.2 U hU hW⟩⟩ rfl rfl hl.1 rfl (lv_room (Nat.le_of_ble_eq_true rfl)) d_Di_split_42 ⟨Nat.le_of_ble_eq_true rfl, Nat.le_of_ble_eq_true rfl⟩) hI.2 (fun q _ h => ga_sub hAC hA0 hI.2 q h) (ga_sub hAC hA0 hI.2) (fun v t H1 locs1 ht hWt hpost _ _ hS => ?_) (fun x t H1 locs1 ht hWt hpost _ _ hS => ?_)
            · rcases hpost.1 _ rfl with ⟨z135, hv, c136, c136_0, c136_1, hI1⟩ | ⟨z137, hv, c138, c138_0, c138_1, c138_2, c138_3, hI1⟩
              · cases hv
                have hI : sI (dC, dI) vcl cI cJ (gsC a he dp co li op t10_wd tl lc fo t10_sf t10_lf nf) A s.heap H1 locs1 := ⟨by rw [← ht]; exact hI1, hS⟩
                clear hpost hI1 hS ht hWt
                revert hI; generalize H1 = H; generalize locs1 = locs; intro hI
                refine sn_if_eq (tgt := 80) hx hb d_Di_split_45 (by decide) (fun b139 => ?_) (fun b139 => ?_)
                · exact j80 _ _ _ v10_3 z132 t10_wd t10_sf t10_lf hI c136 (by omega) (by omega) (by omega) (by omega) (by omega) (by omega) (lv_sub hl [1, 2, 3, 4, 5, 0] rfl)
                · omega
              · cases hv
                have hI : sI (dC, dI) vcl cI cJ (gsC a he dp co li op t10_wd tl lc fo t10_sf t10_lf nf) A s.heap H1 locs1 := ⟨by rw [← ht]; exact hI1, hS⟩
                clear hpost hI1 hS ht hWt
                revert hI; generalize H1 = H; generalize locs1 = locs; intro hI
                refine sn_if_eq (tgt := 80) hx hb d_Di_split_45 (by decide) (fun b140 => ?_) (fun b140 => ?_)
                · omega
                · exact j48 _ _ _ z132 hI c138 (by omega) (by omega) (by omega) (by omega) (lv_sub hl [1, 2, 3, 4, 5, 0] rfl)
            · rcases hpost.2 _ rfl with ⟨hex, c141, hI1⟩
              have hI : sI (dC, dI) vcl cI cJ (gsC a he dp co li op t10_wd tl lc fo t10_sf t10_lf nf) A s.heap H1 locs1 := ⟨by rw [← ht]; exact hI1, hS⟩
              refine tz_widen (k := 1) (n := 6) (Nat.le_of_ble_eq_true rfl) (Nat.le_of_ble_eq_true rfl) ?_
              subst hZ
              exact tz_leave (tx_noH B (hts _ mw_900) _) (fun t9 ht9 hW9 => ⟨⟨fun v9 hv9 => (by cases hv9), fun x9 hx9 => by cases hx9; exact (⟨t10_wd, t10_sf, t10_lf, ta_exm hex ht ht9 hWt hW9, c141, by omega, by rw [ht9]; exact hI.1⟩)⟩, hI.2.F ht9⟩) hI.2.2.2 hlocks
        · refine sn_iconst hx hb d_Di_split_25 (by decide) (fun z142 hz142 => ?_)
          refine lv_goto (tgt := 30) hx hb d_Di_split_26 (by decide) ?_
          refine lv_istore (lv' := [(5, .int z142), (0, .ref (a 18)), (1, .ref (a 8)), (2, .int x2), (3, .int v10_3), (4, .int v10_4)]) hx hb d_Di_split_30 hl (by decide) rfl (fun ls hl => ?_)
          refine lv_iload hx hb d_Di_split_32 (lv_at hl 0 rfl) ?_
          refine sn_if_ne (tgt := 48) hx hb d_Di_split_34 (by decide) (fun b143 => ?_) (fun b143 => ?_)
          · exact j48 _ _ _ z142 hI hok (by omega) (by omega) (by omega) (by omega) (lv_sub hl [1, 2, 3, 4, 5, 0] rfl)
          · omega
  refine lv_aload_n hx hb d_Di_split_0 rfl (lv_at hl 0 rfl) ?_
  refine sn_iconst hx hb d_Di_split_1 (by decide) (fun z144 hz144 => ?_)
  refine sv_put (C := "StoryMachine$Dictionary") (T := T_Di) (N := 6) (ty := .int) hx hb hts in_Di t_Di tk_Di nm_Di hown hK (sh_in adC_map hAC) hI 18 kC_18 rfl 3 (by decide) (hts _ mw_196) rfl (by decide +kernel) rfl rfl (Nat.le_of_ble_eq_true rfl) (Int.le_refl _) (Int.le_refl _) pC_18_3 d_Di_split_2 (fun H locs hI => ?_)
  refine sn_iconst hx hb d_Di_split_5 (by decide) (fun z145 hz145 => ?_)
  refine lv_istore_n (lv' := [(3, .int z145), (0, .ref (a 18)), (1, .ref (a 8)), (2, .int x2)]) hx hb d_Di_split_6 rfl hl (by decide) rfl (fun ls hl => ?_)
  refine sn_iconst hx hb d_Di_split_7 (by decide) (fun z146 hz146 => ?_)
  refine lv_istore (lv' := [(4, .int z146), (3, .int z145), (0, .ref (a 18)), (1, .ref (a 8)), (2, .int x2)]) hx hb d_Di_split_8 hl (by decide) rfl (fun ls hl => ?_)
  have ho147 : okC he dp co li op z144.toInt tl lc fo sf lf nf := ⟨hok.1, hok.2.1, hok.2.2.1, hok.2.2.2.1, hok.2.2.2.2.1, ⟨by omega, by omega⟩, hok.2.2.2.2.2.2.1, hok.2.2.2.2.2.2.2.1, hok.2.2.2.2.2.2.2.2.1, hok.2.2.2.2.2.2.2.2.2.1, hok.2.2.2.2.2.2.2.2.2.2.1, hok.2.2.2.2.2.2.2.2.2.2.2⟩
  exact j10 25 _ _ _ z145 z146 z144.toInt sf lf hI ho147 (by omega) (by omega) (by omega) (by omega) (lv_sub hl [2, 3, 4, 1, 0] rfl) (by omega)
abbrev q_Js_coder0 (dC : Nat → ClassId) (dI : Nat → Nat → Nat) (cI cJ : ClassId) (a : Nat → Nat) (he dp co li op wd tl lc fo : Int) (sf lf nf : Nat → Int32) : Outcome → State → Prop := fun o t => (∀ v, o = .returned v → ((∃ (z : Int32), v = some (.int z) ∧ okC he dp co li op wd tl lc fo sf lf nf ∧ (0 ≤ z.toInt) ∧ (z.toInt ≤ 0) ∧ sh_I (dC, dI) vcl cI cJ (gsC a he dp co li op wd tl lc fo sf lf nf) t.heap))) ∧ (∀ x, o = .threw x → (False))
def rm_Js_coder0 : Room := { frames := 0, cells := 0, slots := 0, locals := 0 }
set_option maxHeartbeats 4000000 in
set_option maxRecDepth 100000 in
theorem c_Js_coder0 (l : Launch) (hfl : l.flags = pinnedFlags ++ [noTraceFlag]) (dC : Nat → ClassId) (dI : Nat → Nat → Nat) (cI cJ : ClassId) (a : Nat → Nat) (sz : Nat) (he dp co li op wd tl lc fo : Int) (sf lf nf : Nat → Int32) (hok : okC he dp co li op wd tl lc fo sf lf nf) : tz_Met l ⟨"java/lang/String", "coder", "()B"⟩ tw_tbl rm_Js_coder0 (tzP (dC, dI) vcl cI cJ (gsC a he dp co li op wd tl lc fo sf lf nf) a (adC a) [.ref (a 105)] sz) (tq_Q (q_Js_coder0 dC dI cI cJ a he dp co li op wd tl lc fo sf lf nf) (ga (adC a) sz)) 0 0 0 0 (ga (adC a) sz) := by
  refine tz_ofW (cc := prog_22_method_152_code) (maxL := 1) (ret := (some .byte)) (by decide) (tx_isM mw_939) ?_
  intro p e s m args below meth c s₁ B hml hv
  obtain ⟨rfl, hsz, hI0, hK, hst0⟩ := hv
  have hx := B.exec
  have hb := B.bytes
  have hr := B.returns
  have hts := atoms_spec (ws := tw_tbl) B.pre
  have hown : s.vm.findClass "java/lang/String" = some m.cls := findClass_of_methodNamed B.named
  have hlocks := B.notSynchronized
  subst hsz
  have hst := fun (H : Heap) (locs : List Loc) (hS : va_S (ga (adC a) s.heap.size) s.heap H locs) (U : State) (hU : U.heap = H) (hW : s.WarmedH U.vm) => zS_all adC_map hI0 hst0 hS hU hW
  have hAC : ∀ q ∈ adC a, ga (adC a) s.heap.size q := fun q h => Or.inl h
  have hA0 : ∀ q, s.heap.size ≤ q → ga (adC a) s.heap.size q := fun q h => Or.inr h
  have hI : sI (dC, dI) vcl cI cJ (gsC a he dp co li op wd tl lc fo sf lf nf) (ga (adC a) s.heap.size) s.heap s.heap [] := ⟨hI0, va_S.rf⟩
  clear hI0 hst0
  have hl := lv_entry ([.ref (a 105)]) (n := 1) (Nat.le_of_ble_eq_true rfl)
  rw [lg_entry_eq]
  generalize (lg_sl ([.ref (a 105)]) ++ List.replicate (1 - (lg_sl ([.ref (a 105)])).length) Slot.unset).toArray = ls at hl ⊢
  have hl : lv_has ls 1 [(0, .ref (a 105))] := hl
  generalize hZ : tz_MQ below (tq_Q (q_Js_coder0 dC dI cI cJ a he dp co li op wd tl lc fo sf lf nf) (ga (adC a) s.heap.size)) ([.ref (a 105)] : List Value).toArray s 0 0 0 0 (ga (adC a) s.heap.size) = Z
  obtain ⟨A, hAe⟩ : ∃ A, A = ga (adC a) s.heap.size := ⟨_, rfl⟩
  rw [← hAe] at hst hAC hA0 hI hZ
  refine sv_start hI (fun H locs hI => ?_)
  obtain ⟨⟨o1, o2⟩, ⟨o3, o4⟩, ⟨o5, o6⟩, ⟨o7, o8⟩, ⟨o9, o10⟩, ⟨o11, o12⟩, ⟨o13, o14⟩, ⟨o15, o16⟩, ⟨o17, o18⟩, o19, -, -⟩ := id hok
  refine sb_compact hx hb (hst _ [] va_S.rf s rfl (State.WarmedH.refl s)) hAe hI.2 hown (hts _ mw_667) d_Js_coder0_0 (fun z20 hz20 => ?_)
  refine sn_if_eq (tgt := 13) hx hb d_Js_coder0_3 (by decide) (fun b21 => ?_) (fun b21 => ?_)
  · omega
  · refine lv_aload_n hx hb d_Js_coder0_6 rfl (lv_at hl 0 rfl) ?_
    refine sb_coder hx hb (hst _ [] va_S.rf s rfl (State.WarmedH.refl s)) hAe hI.2 hown (hts _ mw_1550) d_Js_coder0_7 (fun z22 hz22 => ?_)
    refine lv_goto (tgt := 14) hx hb d_Js_coder0_10 (by decide) ?_
    subst hZ
    exact tz_ret (W.zret (v := z22) hx hb hr (sn_byte (by omega) (by omega)) (fun t ht hW => ⟨⟨fun v9 hv9 => by cases hv9; exact (⟨z22, rfl, hok, by omega, by omega, by rw [ht]; exact hI.1⟩), fun x9 hx9 => (by cases hx9)⟩, hI.2.F ht⟩) hI.2.2.2 d_Js_coder0_14)
abbrev q_Js_length0 (dC : Nat → ClassId) (dI : Nat → Nat → Nat) (cI cJ : ClassId) (a : Nat → Nat) (he dp co li op wd tl lc fo : Int) (sf lf nf : Nat → Int32) : Outcome → State → Prop := fun o t => (∀ v, o = .returned v → ((∃ (z : Int32), v = some (.int z) ∧ okC he dp co li op wd tl lc fo sf lf nf ∧ ((-2147483648) ≤ z.toInt) ∧ (z.toInt ≤ 2147483647) ∧ sh_I (dC, dI) vcl cI cJ (gsC a he dp co li op wd tl lc fo sf lf nf) t.heap))) ∧ (∀ x, o = .threw x → (False))
def rm_Js_length0 : Room := { frames := 1, cells := 0, slots := 0, locals := 20 }
set_option maxHeartbeats 4000000 in
set_option maxRecDepth 100000 in
theorem c_Js_length0 (l : Launch) (hfl : l.flags = pinnedFlags ++ [noTraceFlag]) (dC : Nat → ClassId) (dI : Nat → Nat → Nat) (cI cJ : ClassId) (a : Nat → Nat) (sz : Nat) (he dp co li op wd tl lc fo : Int) (sf lf nf : Nat → Int32) (hok : okC he dp co li op wd tl lc fo sf lf nf) : tz_Met l ⟨"java/lang/String", "length", "()I"⟩ tw_tbl rm_Js_length0 (tzP (dC, dI) vcl cI cJ (gsC a he dp co li op wd tl lc fo sf lf nf) a (adC a) [.ref (a 105)] sz) (tq_Q (q_Js_length0 dC dI cI cJ a he dp co li op wd tl lc fo sf lf nf) (ga (adC a) sz)) 0 0 0 0 (ga (adC a) sz) := by
  refine tz_ofW (cc := prog_22_method_54_code) (maxL := 1) (ret := (some .int)) (by decide) (tx_isM mw_935) ?_
  intro p e s m args below meth c s₁ B hml hv
  obtain ⟨rfl, hsz, hI0, hK, hst0⟩ := hv
  have hx := B.exec
  have hb := B.bytes
  have hr := B.returns
  have hts := atoms_spec (ws := tw_tbl) B.pre
  have hown : s.vm.findClass "java/lang/String" = some m.cls := findClass_of_methodNamed B.named
  have hlocks := B.notSynchronized
  subst hsz
  have hst := fun (H : Heap) (locs : List Loc) (hS : va_S (ga (adC a) s.heap.size) s.heap H locs) (U : State) (hU : U.heap = H) (hW : s.WarmedH U.vm) => zS_all adC_map hI0 hst0 hS hU hW
  have hAC : ∀ q ∈ adC a, ga (adC a) s.heap.size q := fun q h => Or.inl h
  have hA0 : ∀ q, s.heap.size ≤ q → ga (adC a) s.heap.size q := fun q h => Or.inr h
  have hI : sI (dC, dI) vcl cI cJ (gsC a he dp co li op wd tl lc fo sf lf nf) (ga (adC a) s.heap.size) s.heap s.heap [] := ⟨hI0, va_S.rf⟩
  clear hI0 hst0
  have hl := lv_entry ([.ref (a 105)]) (n := 1) (Nat.le_of_ble_eq_true rfl)
  rw [lg_entry_eq]
  generalize (lg_sl ([.ref (a 105)]) ++ List.replicate (1 - (lg_sl ([.ref (a 105)])).length) Slot.unset).toArray = ls at hl ⊢
  have hl : lv_has ls 1 [(0, .ref (a 105))] := hl
  generalize hZ : tz_MQ below (tq_Q (q_Js_length0 dC dI cI cJ a he dp co li op wd tl lc fo sf lf nf) (ga (adC a) s.heap.size)) ([.ref (a 105)] : List Value).toArray s 0 0 0 0 (ga (adC a) s.heap.size) = Z
  obtain ⟨A, hAe⟩ : ∃ A, A = ga (adC a) s.heap.size := ⟨_, rfl⟩
  rw [← hAe] at hst hAC hA0 hI hZ
  refine sv_start hI (fun H locs hI => ?_)
  obtain ⟨⟨o1, o2⟩, ⟨o3, o4⟩, ⟨o5, o6⟩, ⟨o7, o8⟩, ⟨o9, o10⟩, ⟨o11, o12⟩, ⟨o13, o14⟩, ⟨o15, o16⟩, ⟨o17, o18⟩, o19, -, -⟩ := id hok
  refine lv_aload_n hx hb d_Js_length0_0 rfl (lv_at hl 0 rfl) ?_
  refine sb_value hx hb (hst _ [] va_S.rf s rfl (State.WarmedH.refl s)) hAe hI.2 hown (hts _ mw_1551) d_Js_length0_1 ?_
  refine sb_blen hx hb (hst _ [] va_S.rf s rfl (State.WarmedH.refl s)) hAe hI.2 d_Js_length0_4 (fun z20 hz20 => ?_)
  refine lv_aload_n hx hb d_Js_length0_5 rfl (lv_at hl 0 rfl) ?_
  refine tz_call (A1 := ga (adC a) H.size) (tz_runV (C := "java/lang/String") (As := []) (rest := [.int z20]) ⟨hx, hb, hml, hown, hts⟩ (c_Js_coder0 l hfl dC dI cI cJ a H.size he dp co li op wd tl lc fo sf lf nf  hok) (tx_cb (n := 0) hts rfl rfl ⟨Nat.le_of_ble_eq_true rfl, Nat.le_of_ble_eq_true rfl⟩ (tx_code.of (hts _ mw_939)) (hts _ mw_19) (by decide +kernel) (hts _ mw_936)) (hts _ mw_937) (hts _ mw_938) ⟨tz_blind, sb_recv (hst _ [] va_S.rf s rfl (State.WarmedH.refl s)) hAe hI.2, fun U hU hW => ⟨rfl, by rw [hU], by rw [hU]; exact hI.1, va_K.moved hW.alike hK, hst _ _ hI.2 U hU hW⟩⟩ rfl rfl hl.1 rfl (lv_room (Nat.le_of_ble_eq_true rfl)) d_Js_length0_6 ⟨Nat.le_of_ble_eq_true rfl, Nat.le_of_ble_eq_true rfl⟩) hI.2 (fun q _ h => ga_sub hAC hA0 hI.2 q h) (ga_sub hAC hA0 hI.2) (fun v t H1 locs1 ht hWt hpost _ _ hS => ?_) (fun x t H1 locs1 ht hWt hpost _ _ hS => (hpost.2 x rfl).elim)
  rcases hpost.1 _ rfl with ⟨z21, hv, c22, c22_0, c22_1, hI1⟩
  cases hv
  have hI : sI (dC, dI) vcl cI cJ (gsC a he dp co li op wd tl lc fo sf lf nf) A s.heap H1 locs1 := ⟨by rw [← ht]; exact hI1, hS⟩
  clear hpost hI1 hS ht hWt
  revert hI; generalize H1 = H; generalize locs1 = locs; intro hI
  refine sn_ishrT hx hb d_Js_length0_9 (fun z23 hz23a hz23b => ?_)
  subst hZ
  exact tz_ret (W.iret (v := z23) hx hb hr (fun t ht hW => ⟨⟨fun v9 hv9 => by cases hv9; exact (⟨z23, rfl, c22, by omega, by omega, by rw [ht]; exact hI.1⟩), fun x9 hx9 => (by cases hx9)⟩, hI.2.F ht⟩) hI.2.2.2 d_Js_length0_10)
abbrev q_Jl_canEncode1 (dC : Nat → ClassId) (dI : Nat → Nat → Nat) (cI cJ : ClassId) (a : Nat → Nat) (he dp co li op wd tl lc fo : Int) (sf lf nf : Nat → Int32) (x0 : Int32) : Outcome → State → Prop := fun o t => (∀ v, o = .returned v → ((∃ (z : Int32), v = some (.int z) ∧ okC he dp co li op wd tl lc fo sf lf nf ∧ (0 ≤ z.toInt) ∧ (z.toInt ≤ 0) ∧ sh_I (dC, dI) vcl cI cJ (gsC a he dp co li op wd tl lc fo sf lf nf) t.heap) ∨ (∃ (z : Int32), v = some (.int z) ∧ okC he dp co li op wd tl lc fo sf lf nf ∧ (1 ≤ z.toInt) ∧ (z.toInt ≤ 1) ∧ (0 ≤ x0.toInt) ∧ (x0.toInt ≤ 255) ∧ sh_I (dC, dI) vcl cI cJ (gsC a he dp co li op wd tl lc fo sf lf nf) t.heap))) ∧ (∀ x, o = .threw x → (False))
def rm_Jl_canEncode1 : Room := { frames := 0, cells := 0, slots := 0, locals := 0 }
set_option maxHeartbeats 4000000 in
set_option maxRecDepth 100000 in
theorem c_Jl_canEncode1 (l : Launch) (hfl : l.flags = pinnedFlags ++ [noTraceFlag]) (dC : Nat → ClassId) (dI : Nat → Nat → Nat) (cI cJ : ClassId) (a : Nat → Nat) (sz : Nat) (he dp co li op wd tl lc fo : Int) (sf lf nf : Nat → Int32) (x0 : Int32) (hok : okC he dp co li op wd tl lc fo sf lf nf) : tz_Met l ⟨"java/lang/StringLatin1", "canEncode", "(I)Z"⟩ tw_tbl rm_Jl_canEncode1 (tzP (dC, dI) vcl cI cJ (gsC a he dp co li op wd tl lc fo sf lf nf) a (adC a) [.int x0] sz) (tq_Q (q_Jl_canEncode1 dC dI cI cJ a he dp co li op wd tl lc fo sf lf nf x0) (ga (adC a) sz)) 0 0 0 0 (ga (adC a) sz) := by
  refine tz_ofW (cc := prog_23_method_4_code) (maxL := 1) (ret := (some .boolean)) (by decide) (tx_isM mw_945) ?_
  intro p e s m args below meth c s₁ B hml hv
  obtain ⟨rfl, hsz, hI0, hK, hst0⟩ := hv
  have hx := B.exec
  have hb := B.bytes
  have hr := B.returns
  have hts := atoms_spec (ws := tw_tbl) B.pre
  have hown : s.vm.findClass "java/lang/StringLatin1" = some m.cls := findClass_of_methodNamed B.named
  have hlocks := B.notSynchronized
  subst hsz
  have hst := fun (H : Heap) (locs : List Loc) (hS : va_S (ga (adC a) s.heap.size) s.heap H locs) (U : State) (hU : U.heap = H) (hW : s.WarmedH U.vm) => zS_all adC_map hI0 hst0 hS hU hW
  have hAC : ∀ q ∈ adC a, ga (adC a) s.heap.size q := fun q h => Or.inl h
  have hA0 : ∀ q, s.heap.size ≤ q → ga (adC a) s.heap.size q := fun q h => Or.inr h
  have hI : sI (dC, dI) vcl cI cJ (gsC a he dp co li op wd tl lc fo sf lf nf) (ga (adC a) s.heap.size) s.heap s.heap [] := ⟨hI0, va_S.rf⟩
  clear hI0 hst0
  have hl := lv_entry ([.int x0]) (n := 1) (Nat.le_of_ble_eq_true rfl)
  rw [lg_entry_eq]
  generalize (lg_sl ([.int x0]) ++ List.replicate (1 - (lg_sl ([.int x0])).length) Slot.unset).toArray = ls at hl ⊢
  have hl : lv_has ls 1 [(0, .int x0)] := hl
  generalize hZ : tz_MQ below (tq_Q (q_Jl_canEncode1 dC dI cI cJ a he dp co li op wd tl lc fo sf lf nf x0) (ga (adC a) s.heap.size)) ([.int x0] : List Value).toArray s 0 0 0 0 (ga (adC a) s.heap.size) = Z
  obtain ⟨A, hAe⟩ : ∃ A, A = ga (adC a) s.heap.size := ⟨_, rfl⟩
  rw [← hAe] at hst hAC hA0 hI hZ
  refine sv_start hI (fun H locs hI => ?_)
  obtain ⟨⟨o1, o2⟩, ⟨o3, o4⟩, ⟨o5, o6⟩, ⟨o7, o8⟩, ⟨o9, o10⟩, ⟨o11, o12⟩, ⟨o13, o14⟩, ⟨o15, o16⟩, ⟨o17, o18⟩, o19, -, -⟩ := id hok
  have gx0 := sn_rng x0
  refine lv_iload_n hx hb d_Jl_canEncode1_0 rfl (lv_at hl 0 rfl) ?_
  refine sn_if_lt (tgt := 15) hx hb d_Jl_canEncode1_1 (by decide) (fun b20 => ?_) (fun b20 => ?_)
  · refine sn_iconst hx hb d_Jl_canEncode1_15 (by decide) (fun z21 hz21 => ?_)
    subst hZ
    exact tz_ret (W.zret (v := z21) hx hb hr (sn_bool (by omega) (by omega)).1 (fun t ht hW => ⟨⟨fun v9 hv9 => by cases hv9; exact (Or.inl ⟨z21, rfl, hok, by omega, by omega, by rw [ht]; exact hI.1⟩), fun x9 hx9 => (by cases hx9)⟩, hI.2.F ht⟩) hI.2.2.2 d_Jl_canEncode1_16)
  · refine lv_iload_n hx hb d_Jl_canEncode1_4 rfl (lv_at hl 0 rfl) ?_
    refine sn_sipush hx hb d_Jl_canEncode1_5 (by decide) (fun z22 hz22 => ?_)
    refine sn_icmp_gt (tgt := 15) hx hb d_Jl_canEncode1_8 (by decide) (fun b23 => ?_) (fun b23 => ?_)
    · refine sn_iconst hx hb d_Jl_canEncode1_15 (by decide) (fun z24 hz24 => ?_)
      subst hZ
      exact tz_ret (W.zret (v := z24) hx hb hr (sn_bool (by omega) (by omega)).1 (fun t ht hW => ⟨⟨fun v9 hv9 => by cases hv9; exact (Or.inl ⟨z24, rfl, hok, by omega, by omega, by rw [ht]; exact hI.1⟩), fun x9 hx9 => (by cases hx9)⟩, hI.2.F ht⟩) hI.2.2.2 d_Jl_canEncode1_16)
    · refine sn_iconst hx hb d_Jl_canEncode1_11 (by decide) (fun z25 hz25 => ?_)
      refine lv_goto (tgt := 16) hx hb d_Jl_canEncode1_12 (by decide) ?_
      subst hZ
      exact tz_ret (W.zret (v := z25) hx hb hr (sn_bool (by omega) (by omega)).1 (fun t ht hW => ⟨⟨fun v9 hv9 => by cases hv9; exact (Or.inr (⟨z25, rfl, hok, by omega, by omega, by omega, by omega, by rw [ht]; exact hI.1⟩)), fun x9 hx9 => (by cases hx9)⟩, hI.2.F ht⟩) hI.2.2.2 d_Jl_canEncode1_16)
abbrev q_Jl_indexOfChar4 (dC : Nat → ClassId) (dI : Nat → Nat → Nat) (cI cJ : ClassId) (a : Nat → Nat) (he dp co li op wd tl lc fo : Int) (sf lf nf : Nat → Int32) (x1 : Int32) (x2 : Int32) (x3 : Int32) : Outcome → State → Prop := fun o t => (∀ v, o = .returned v → ((∃ (z : Int32), v = some (.int z) ∧ okC he dp co li op wd tl lc fo sf lf nf ∧ ((-1) ≤ z.toInt) ∧ (z.toInt ≤ 23) ∧ sh_I (dC, dI) vcl cI cJ (gsC a he dp co li op wd tl lc fo sf lf nf) t.heap))) ∧ (∀ x, o = .threw x → (False))
def rm_Jl_indexOfChar4 : Room := { frames := 0, cells := 0, slots := 0, locals := 0 }
set_option maxHeartbeats 4000000 in
set_option maxRecDepth 100000 in
theorem c_Jl_indexOfChar4 (l : Launch) (hfl : l.flags = pinnedFlags ++ [noTraceFlag]) (dC : Nat → ClassId) (dI : Nat → Nat → Nat) (cI cJ : ClassId) (a : Nat → Nat) (sz : Nat) (he dp co li op wd tl lc fo : Int) (sf lf nf : Nat → Int32) (x1 : Int32) (x2 : Int32) (x3 : Int32) (hok : okC he dp co li op wd tl lc fo sf lf nf) (hp0 : 0 ≤ x2.toInt) (hp1 : x2.toInt ≤ 0) (hp2 : 1 ≤ x3.toInt) (hp3 : x3.toInt ≤ 24) : tz_Met l ⟨"java/lang/StringLatin1", "indexOfChar", "([BIII)I"⟩ tw_tbl rm_Jl_indexOfChar4 (tzP (dC, dI) vcl cI cJ (gsC a he dp co li op wd tl lc fo sf lf nf) a (adC a) [.ref (a 106), .int x1, .int x2, .int x3] sz) (tq_Q (q_Jl_indexOfChar4 dC dI cI cJ a he dp co li op wd tl lc fo sf lf nf x1 x2 x3) (ga (adC a) sz)) 0 0 0 0 (ga (adC a) sz) := by
  refine tz_ofW (cc := prog_23_method_23_code) (maxL := 6) (ret := (some .int)) (by decide) (tx_isM mw_952) ?_
  intro p e s m args below meth c s₁ B hml hv
  obtain ⟨rfl, hsz, hI0, hK, hst0⟩ := hv
  have hx := B.exec
  have hb := B.bytes
  have hr := B.returns
  have hts := atoms_spec (ws := tw_tbl) B.pre
  have hown : s.vm.findClass "java/lang/StringLatin1" = some m.cls := findClass_of_methodNamed B.named
  have hlocks := B.notSynchronized
  subst hsz
  have hst := fun (H : Heap) (locs : List Loc) (hS : va_S (ga (adC a) s.heap.size) s.heap H locs) (U : State) (hU : U.heap = H) (hW : s.WarmedH U.vm) => zS_all adC_map hI0 hst0 hS hU hW
  have hAC : ∀ q ∈ adC a, ga (adC a) s.heap.size q := fun q h => Or.inl h
  have hA0 : ∀ q, s.heap.size ≤ q → ga (adC a) s.heap.size q := fun q h => Or.inr h
  have hI : sI (dC, dI) vcl cI cJ (gsC a he dp co li op wd tl lc fo sf lf nf) (ga (adC a) s.heap.size) s.heap s.heap [] := ⟨hI0, va_S.rf⟩
  clear hI0 hst0
  have hl := lv_entry ([.ref (a 106), .int x1, .int x2, .int x3]) (n := 6) (Nat.le_of_ble_eq_true rfl)
  rw [lg_entry_eq]
  generalize (lg_sl ([.ref (a 106), .int x1, .int x2, .int x3]) ++ List.replicate (6 - (lg_sl ([.ref (a 106), .int x1, .int x2, .int x3])).length) Slot.unset).toArray = ls at hl ⊢
  have hl : lv_has ls 6 [(0, .ref (a 106)), (1, .int x1), (2, .int x2), (3, .int x3)] := hl
  generalize hZ : tz_MQ below (tq_Q (q_Jl_indexOfChar4 dC dI cI cJ a he dp co li op wd tl lc fo sf lf nf x1 x2 x3) (ga (adC a) s.heap.size)) ([.ref (a 106), .int x1, .int x2, .int x3] : List Value).toArray s 0 0 0 0 (ga (adC a) s.heap.size) = Z
  obtain ⟨A, hAe⟩ : ∃ A, A = ga (adC a) s.heap.size := ⟨_, rfl⟩
  rw [← hAe] at hst hAC hA0 hI hZ
  refine sv_start hI (fun H locs hI => ?_)
  obtain ⟨⟨o1, o2⟩, ⟨o3, o4⟩, ⟨o5, o6⟩, ⟨o7, o8⟩, ⟨o9, o10⟩, ⟨o11, o12⟩, ⟨o13, o14⟩, ⟨o15, o16⟩, ⟨o17, o18⟩, o19, -, -⟩ := id hok
  have gx1 := sn_rng x1
  have gx2 := sn_rng x2
  have gx3 := sn_rng x3
  have j7 : ∀ (n : Nat) (H : Heap) (locs : List Loc) (ls : Array Slot) (v7_4 v7_5 : Int32), sI (dC, dI) vcl cI cJ (gsC a he dp co li op wd tl lc fo sf lf nf) A s.heap H locs → okC he dp co li op wd tl lc fo sf lf nf → (-128) ≤ v7_4.toInt → v7_4.toInt ≤ 127 → 0 ≤ v7_5.toInt → v7_5.toInt ≤ 24 → lv_has ls 6 [(0, .ref (a 106)), (1, .int x1), (2, .int x2), (3, .int x3), (4, .int v7_4), (5, .int v7_5)] → 24 - v7_5.toInt < (n : Int) → W p l e (headSpec tw_tbl rm_Jl_indexOfChar4).room s m ([.ref (a 106), .int x1, .int x2, .int x3] : List Value).toArray below meth c H locs 0 0 Z (F0 m 7 ls []) := by
    intro n
    induction n with
    | zero => intro H locs ls v7_4 v7_5 hI hok g7_0 g7_1 g7_2 g7_3 hl hme; exfalso; obtain ⟨⟨o20, o21⟩, ⟨o22, o23⟩, ⟨o24, o25⟩, ⟨o26, o27⟩, ⟨o28, o29⟩, ⟨o30, o31⟩, ⟨o32, o33⟩, ⟨o34, o35⟩, ⟨o36, o37⟩, o38, -, -⟩ := id hok; omega
    | succ n ih =>
      intro H locs ls v7_4 v7_5 hI hok g7_0 g7_1 g7_2 g7_3 hl hme
      obtain ⟨⟨o39, o40⟩, ⟨o41, o42⟩, ⟨o43, o44⟩, ⟨o45, o46⟩, ⟨o47, o48⟩, ⟨o49, o50⟩, ⟨o51, o52⟩, ⟨o53, o54⟩, ⟨o55, o56⟩, o57, -, -⟩ := id hok
      refine lv_iload hx hb d_Jl_indexOfChar4_7 (lv_at hl 5 rfl) ?_
      refine lv_iload_n hx hb d_Jl_indexOfChar4_9 rfl (lv_at hl 3 rfl) ?_
      refine sn_icmp_ge (tgt := 31) hx hb d_Jl_indexOfChar4_10 (by decide) (fun b58 => ?_) (fun b58 => ?_)
      · refine sn_iconst hx hb d_Jl_indexOfChar4_31 (by decide) (fun z59 hz59 => ?_)
        subst hZ
        exact tz_ret (W.iret (v := z59) hx hb hr (fun t ht hW => ⟨⟨fun v9 hv9 => by cases hv9; exact (⟨z59, rfl, hok, by omega, by omega, by rw [ht]; exact hI.1⟩), fun x9 hx9 => (by cases hx9)⟩, hI.2.F ht⟩) hI.2.2.2 d_Jl_indexOfChar4_32)
      · refine lv_aload_n hx hb d_Jl_indexOfChar4_13 rfl (lv_at hl 0 rfl) ?_
        refine lv_iload hx hb d_Jl_indexOfChar4_14 (lv_at hl 5 rfl) ?_
        refine sb_bald hx hb (hst _ [] va_S.rf s rfl (State.WarmedH.refl s)) hAe hI.2 (by omega) (by omega) d_Jl_indexOfChar4_16 (fun z60 hz60a hz60b => ?_)
        refine lv_iload hx hb d_Jl_indexOfChar4_17 (lv_at hl 4 rfl) ?_
        refine sn_icmp_ne (tgt := 25) hx hb d_Jl_indexOfChar4_19 (by decide) (fun b61 => ?_) (fun b61 => ?_)
        · refine sn_iinc (k := 5) hx hb d_Jl_indexOfChar4_25 hl rfl (by decide) (by decide) (by omega) (by omega) (fun ls z62 hz62 hl => ?_)
          have hl : lv_has ls 6 [(5, .int z62), (0, .ref (a 106)), (1, .int x1), (2, .int x2), (3, .int x3), (4, .int v7_4)] := hl
          refine lv_goto (tgt := 7) hx hb d_Jl_indexOfChar4_28 (by decide) ?_
          exact ih _ _ _ v7_4 z62 hI hok (by omega) (by omega) (by omega) (by omega) (lv_sub hl [1, 2, 3, 4, 5, 0] rfl) (by omega)
        · refine lv_iload hx hb d_Jl_indexOfChar4_22 (lv_at hl 5 rfl) ?_
          subst hZ
          exact tz_ret (W.iret (v := v7_5) hx hb hr (fun t ht hW => ⟨⟨fun v9 hv9 => by cases hv9; exact (⟨v7_5, rfl, hok, by omega, by omega, by rw [ht]; exact hI.1⟩), fun x9 hx9 => (by cases hx9)⟩, hI.2.F ht⟩) hI.2.2.2 d_Jl_indexOfChar4_24)
  refine lv_iload_n hx hb d_Jl_indexOfChar4_0 rfl (lv_at hl 1 rfl) ?_
  refine sn_i2b hx hb d_Jl_indexOfChar4_1 (fun z63 hz63a hz63b => ?_)
  refine lv_istore (lv' := [(4, .int z63), (0, .ref (a 106)), (1, .int x1), (2, .int x2), (3, .int x3)]) hx hb d_Jl_indexOfChar4_2 hl (by decide) rfl (fun ls hl => ?_)
  refine lv_iload_n hx hb d_Jl_indexOfChar4_4 rfl (lv_at hl 3 rfl) ?_
  refine lv_istore (lv' := [(5, .int x2), (4, .int z63), (0, .ref (a 106)), (1, .int x1), (2, .int x2), (3, .int x3)]) hx hb d_Jl_indexOfChar4_5 hl (by decide) rfl (fun ls hl => ?_)
  exact j7 25 _ _ _ z63 x2 hI hok (by omega) (by omega) (by omega) (by omega) (lv_sub hl [2, 3, 4, 5, 1, 0] rfl) (by omega)
abbrev q_Jl_indexOf4 (dC : Nat → ClassId) (dI : Nat → Nat → Nat) (cI cJ : ClassId) (a : Nat → Nat) (he dp co li op wd tl lc fo : Int) (sf lf nf : Nat → Int32) (x1 : Int32) (x2 : Int32) (x3 : Int32) : Outcome → State → Prop := fun o t => (∀ v, o = .returned v → ((∃ (z : Int32), v = some (.int z) ∧ okC he dp co li op wd tl lc fo sf lf nf ∧ ((-1) ≤ z.toInt) ∧ (z.toInt ≤ 23) ∧ sh_I (dC, dI) vcl cI cJ (gsC a he dp co li op wd tl lc fo sf lf nf) t.heap))) ∧ (∀ x, o = .threw x → (False))
def rm_Jl_indexOf4 : Room := { frames := 1, cells := 0, slots := 0, locals := 60 }
set_option maxHeartbeats 4000000 in
set_option maxRecDepth 100000 in
theorem c_Jl_indexOf4 (l : Launch) (hfl : l.flags = pinnedFlags ++ [noTraceFlag]) (dC : Nat → ClassId) (dI : Nat → Nat → Nat) (cI cJ : ClassId) (a : Nat → Nat) (sz : Nat) (he dp co li op wd tl lc fo : Int) (sf lf nf : Nat → Int32) (x1 : Int32) (x2 : Int32) (x3 : Int32) (hok : okC he dp co li op wd tl lc fo sf lf nf) (hp0 : 0 ≤ x2.toInt) (hp1 : x2.toInt ≤ 0) : tz_Met l ⟨"java/lang/StringLatin1", "indexOf", "([BIII)I"⟩ tw_tbl rm_Jl_indexOf4 (tzP (dC, dI) vcl cI cJ (gsC a he dp co li op wd tl lc fo sf lf nf) a (adC a) [.ref (a 106), .int x1, .int x2, .int x3] sz) (tq_Q (q_Jl_indexOf4 dC dI cI cJ a he dp co li op wd tl lc fo sf lf nf x1 x2 x3) (ga (adC a) sz)) 0 0 0 0 (ga (adC a) sz) := by
  refine tz_ofW (cc := prog_23_method_22_code) (maxL := 4) (ret := (some .int)) (by decide) (tx_isM mw_942) ?_
  intro p e s m args below meth c s₁ B hml hv
  obtain ⟨rfl, hsz, hI0, hK, hst0⟩ := hv
  have hx := B.exec
  have hb := B.bytes
  have hr := B.returns
  have hts := atoms_spec (ws := tw_tbl) B.pre
  have hown : s.vm.findClass "java/lang/StringLatin1" = some m.cls := findClass_of_methodNamed B.named
  have hlocks := B.notSynchronized
  subst hsz
  have hst := fun (H : Heap) (locs : List Loc) (hS : va_S (ga (adC a) s.heap.size) s.heap H locs) (U : State) (hU : U.heap = H) (hW : s.WarmedH U.vm) => zS_all adC_map hI0 hst0 hS hU hW
  have hAC : ∀ q ∈ adC a, ga (adC a) s.heap.size q := fun q h => Or.inl h
  have hA0 : ∀ q, s.heap.size ≤ q → ga (adC a) s.heap.size q := fun q h => Or.inr h
  have hI : sI (dC, dI) vcl cI cJ (gsC a he dp co li op wd tl lc fo sf lf nf) (ga (adC a) s.heap.size) s.heap s.heap [] := ⟨hI0, va_S.rf⟩
  clear hI0 hst0
  have hl := lv_entry ([.ref (a 106), .int x1, .int x2, .int x3]) (n := 4) (Nat.le_of_ble_eq_true rfl)
  rw [lg_entry_eq]
  generalize (lg_sl ([.ref (a 106), .int x1, .int x2, .int x3]) ++ List.replicate (4 - (lg_sl ([.ref (a 106), .int x1, .int x2, .int x3])).length) Slot.unset).toArray = ls at hl ⊢
  have hl : lv_has ls 4 [(0, .ref (a 106)), (1, .int x1), (2, .int x2), (3, .int x3)] := hl
  generalize hZ : tz_MQ below (tq_Q (q_Jl_indexOf4 dC dI cI cJ a he dp co li op wd tl lc fo sf lf nf x1 x2 x3) (ga (adC a) s.heap.size)) ([.ref (a 106), .int x1, .int x2, .int x3] : List Value).toArray s 0 0 0 0 (ga (adC a) s.heap.size) = Z
  obtain ⟨A, hAe⟩ : ∃ A, A = ga (adC a) s.heap.size := ⟨_, rfl⟩
  rw [← hAe] at hst hAC hA0 hI hZ
  refine sv_start hI (fun H locs hI => ?_)
  obtain ⟨⟨o1, o2⟩, ⟨o3, o4⟩, ⟨o5, o6⟩, ⟨o7, o8⟩, ⟨o9, o10⟩, ⟨o11, o12⟩, ⟨o13, o14⟩, ⟨o15, o16⟩, ⟨o17, o18⟩, o19, -, -⟩ := id hok
  have gx1 := sn_rng x1
  have gx2 := sn_rng x2
  have gx3 := sn_rng x3
  refine lv_iload_n hx hb d_Jl_indexOf4_0 rfl (lv_at hl 1 rfl) ?_
  refine tz_call (A1 := ga (adC a) H.size) (tz_runS (As := [.int x1]) (rest := []) ⟨hx, hb, hml, hown, hts⟩ (c_Jl_canEncode1 l hfl dC dI cI cJ a H.size he dp co li op wd tl lc fo sf lf nf x1 hok) (tx_cb (n := 1) hts rfl rfl ⟨Nat.le_of_ble_eq_true rfl, Nat.le_of_ble_eq_true rfl⟩ (tx_code.of (hts _ mw_945)) (hts _ mw_20) (by decide +kernel) (hts _ mw_943)) (hts _ mw_944) ⟨tz_blind, fun U hU hW => ⟨rfl, by rw [hU], by rw [hU]; exact hI.1, va_K.moved hW.alike hK, hst _ _ hI.2 U hU hW⟩⟩ rfl rfl hl.1 rfl (lv_room (Nat.le_of_ble_eq_true rfl)) d_Jl_indexOf4_1 ⟨Nat.le_of_ble_eq_true rfl, Nat.le_of_ble_eq_true rfl⟩) hI.2 (fun q _ h => ga_sub hAC hA0 hI.2 q h) (ga_sub hAC hA0 hI.2) (fun v t H1 locs1 ht hWt hpost _ _ hS => ?_) (fun x t H1 locs1 ht hWt hpost _ _ hS => (hpost.2 x rfl).elim)
  rcases hpost.1 _ rfl with ⟨z20, hv, c21, c21_0, c21_1, hI1⟩ | ⟨z22, hv, c23, c23_0, c23_1, c23_2, c23_3, hI1⟩
  · cases hv
    have hI : sI (dC, dI) vcl cI cJ (gsC a he dp co li op wd tl lc fo sf lf nf) A s.heap H1 locs1 := ⟨by rw [← ht]; exact hI1, hS⟩
    clear hpost hI1 hS ht hWt
    revert hI; generalize H1 = H; generalize locs1 = locs; intro hI
    refine sn_if_ne (tgt := 9) hx hb d_Jl_indexOf4_4 (by decide) (fun b24 => ?_) (fun b24 => ?_)
    · omega
    · refine sn_iconst hx hb d_Jl_indexOf4_7 (by decide) (fun z25 hz25 => ?_)
      subst hZ
      exact tz_ret (W.iret (v := z25) hx hb hr (fun t ht hW => ⟨⟨fun v9 hv9 => by cases hv9; exact (⟨z25, rfl, c21, by omega, by omega, by rw [ht]; exact hI.1⟩), fun x9 hx9 => (by cases hx9)⟩, hI.2.F ht⟩) hI.2.2.2 d_Jl_indexOf4_8)
  · cases hv
    have hI : sI (dC, dI) vcl cI cJ (gsC a he dp co li op wd tl lc fo sf lf nf) A s.heap H1 locs1 := ⟨by rw [← ht]; exact hI1, hS⟩
    clear hpost hI1 hS ht hWt
    revert hI; generalize H1 = H; generalize locs1 = locs; intro hI
    refine sn_if_ne (tgt := 9) hx hb d_Jl_indexOf4_4 (by decide) (fun b26 => ?_) (fun b26 => ?_)
    · refine lv_iload_n hx hb d_Jl_indexOf4_9 rfl (lv_at hl 2 rfl) ?_
      refine sn_iconst hx hb d_Jl_indexOf4_10 (by decide) (fun z27 hz27 => ?_)
      refine sj_max hx hb (by rw [hml]; exact hl.1.symm) hown (hts _ mw_946) (hts _ mw_947) (hts _ mw_25) (hts _ mw_948) (Nat.le_of_ble_eq_true rfl) (Nat.le_of_ble_eq_true rfl) (Nat.le_of_ble_eq_true rfl) (Nat.le_of_ble_eq_true rfl) d_Jl_indexOf4_11 (fun z28 hz28a hz28b hz28c => ?_)
      refine lv_istore_n (lv' := [(2, .int z28), (0, .ref (a 106)), (1, .int x1), (3, .int x3)]) hx hb d_Jl_indexOf4_14 rfl hl (by decide) rfl (fun ls hl => ?_)
      refine lv_iload_n hx hb d_Jl_indexOf4_15 rfl (lv_at hl 3 rfl) ?_
      refine lv_aload_n hx hb d_Jl_indexOf4_16 rfl (lv_at hl 1 rfl) ?_
      refine sb_blen hx hb (hst _ [] va_S.rf s rfl (State.WarmedH.refl s)) hAe hI.2 d_Jl_indexOf4_17 (fun z29 hz29 => ?_)
      refine sj_min hx hb (by rw [hml]; exact hl.1.symm) hown (hts _ mw_949) (hts _ mw_895) (hts _ mw_25) (hts _ mw_896) (Nat.le_of_ble_eq_true rfl) (Nat.le_of_ble_eq_true rfl) (Nat.le_of_ble_eq_true rfl) (Nat.le_of_ble_eq_true rfl) d_Jl_indexOf4_18 (fun z30 hz30a hz30b hz30c => ?_)
      refine lv_istore_n (lv' := [(3, .int z30), (2, .int z28), (0, .ref (a 106)), (1, .int x1)]) hx hb d_Jl_indexOf4_21 rfl hl (by decide) rfl (fun ls hl => ?_)
      refine lv_iload_n hx hb d_Jl_indexOf4_22 rfl (lv_at hl 1 rfl) ?_
      refine lv_iload_n hx hb d_Jl_indexOf4_23 rfl (lv_at hl 0 rfl) ?_
      refine sn_icmp_lt (tgt := 29) hx hb d_Jl_indexOf4_24 (by decide) (fun b31 => ?_) (fun b31 => ?_)
      · refine lv_aload_n hx hb d_Jl_indexOf4_29 rfl (lv_at hl 2 rfl) ?_
        refine lv_iload_n hx hb d_Jl_indexOf4_30 rfl (lv_at hl 3 rfl) ?_
        refine lv_iload_n hx hb d_Jl_indexOf4_31 rfl (lv_at hl 1 rfl) ?_
        refine lv_iload_n hx hb d_Jl_indexOf4_32 rfl (lv_at hl 0 rfl) ?_
        refine tz_call (A1 := ga (adC a) H.size) (tz_runS (As := [.ref (a 106), .int x1, .int z28, .int z30]) (rest := []) ⟨hx, hb, hml, hown, hts⟩ (c_Jl_indexOfChar4 l hfl dC dI cI cJ a H.size he dp co li op wd tl lc fo sf lf nf x1 z28 z30 c23 (by omega) (by omega) (by omega) (by omega)) (tx_cb (n := 4) hts rfl rfl ⟨Nat.le_of_ble_eq_true rfl, Nat.le_of_ble_eq_true rfl⟩ (tx_code.of (hts _ mw_952)) (hts _ mw_20) (by decide +kernel) (hts _ mw_950)) (hts _ mw_951) ⟨tz_blind, fun U hU hW => ⟨rfl, by rw [hU], by rw [hU]; exact hI.1, va_K.moved hW.alike hK, hst _ _ hI.2 U hU hW⟩⟩ rfl rfl hl.1 rfl (lv_room (Nat.le_of_ble_eq_true rfl)) d_Jl_indexOf4_33 ⟨Nat.le_of_ble_eq_true rfl, Nat.le_of_ble_eq_true rfl⟩) hI.2 (fun q _ h => ga_sub hAC hA0 hI.2 q h) (ga_sub hAC hA0 hI.2) (fun v t H1 locs1 ht hWt hpost _ _ hS => ?_) (fun x t H1 locs1 ht hWt hpost _ _ hS => (hpost.2 x rfl).elim)
        rcases hpost.1 _ rfl with ⟨z32, hv, c33, c33_0, c33_1, hI1⟩
        cases hv
        have hI : sI (dC, dI) vcl cI cJ (gsC a he dp co li op wd tl lc fo sf lf nf) A s.heap H1 locs1 := ⟨by rw [← ht]; exact hI1, hS⟩
        clear hpost hI1 hS ht hWt
        revert hI; generalize H1 = H; generalize locs1 = locs; intro hI
        subst hZ
        exact tz_ret (W.iret (v := z32) hx hb hr (fun t ht hW => ⟨⟨fun v9 hv9 => by cases hv9; exact (⟨z32, rfl, c33, by omega, by omega, by rw [ht]; exact hI.1⟩), fun x9 hx9 => (by cases hx9)⟩, hI.2.F ht⟩) hI.2.2.2 d_Jl_indexOf4_36)
      · refine sn_iconst hx hb d_Jl_indexOf4_27 (by decide) (fun z34 hz34 => ?_)
        subst hZ
        exact tz_ret (W.iret (v := z34) hx hb hr (fun t ht hW => ⟨⟨fun v9 hv9 => by cases hv9; exact (⟨z34, rfl, c23, by omega, by omega, by rw [ht]; exact hI.1⟩), fun x9 hx9 => (by cases hx9)⟩, hI.2.F ht⟩) hI.2.2.2 d_Jl_indexOf4_28)
    · omega
