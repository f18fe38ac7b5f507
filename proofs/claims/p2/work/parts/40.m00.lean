abbrev q_Me_byteAt (dC : Nat → ClassId) (dI : Nat → Nat → Nat) (cI cJ : ClassId) (a : Nat → Nat) (he dp co li op wd tl lc fo : Int) (sf lf nf : Nat → Int32) (x1 : Int32) : Outcome → State → Prop := fun o t => (∀ v, o = .returned v → ((∃ (z : Int32), v = some (.int z) ∧ okC he dp co li op wd tl lc fo sf lf nf ∧ (0 ≤ z.toInt) ∧ (z.toInt ≤ 255) ∧ (0 ≤ x1.toInt) ∧ (x1.toInt ≤ 511) ∧ sh_I (dC, dI) vcl cI cJ (gsC a he dp co li op wd tl lc fo sf lf nf) t.heap))) ∧ (∀ x, o = .threw x → ((ta_Ex "java/lang/IllegalArgumentException" x t ∧ okC he dp co li op wd tl lc fo sf lf nf ∧ sh_I (dC, dI) vcl cI cJ (gsC a he dp co li op wd tl lc fo sf lf nf) t.heap)))
def rm_Me_byteAt : Room := { frames := 7, cells := 1, slots := 6, locals := 130 }
set_option maxHeartbeats 4000000 in
set_option maxRecDepth 100000 in
theorem c_Me_byteAt (l : Launch) (hfl : l.flags = pinnedFlags ++ [noTraceFlag]) (dC : Nat → ClassId) (dI : Nat → Nat → Nat) (cI cJ : ClassId) (a : Nat → Nat) (sz : Nat) (he dp co li op wd tl lc fo : Int) (sf lf nf : Nat → Int32) (x1 : Int32) (hok : okC he dp co li op wd tl lc fo sf lf nf) : tz_Met l ⟨"StoryMachine$Memory", "byteAt", "(I)I"⟩ tw_tbl rm_Me_byteAt (tzP (dC, dI) vcl cI cJ (gsC a he dp co li op wd tl lc fo sf lf nf) a (adC a) [.ref (a 1), .int x1] sz) (tq_Q (q_Me_byteAt dC dI cI cJ a he dp co li op wd tl lc fo sf lf nf x1) (ga (adC a) sz)) 0 0 1 6 (ga (adC a) sz) := by
  refine tz_ofW (cc := prog_7_method_2_code) (maxL := 2) (ret := (some .int)) (by decide) (tx_isM mw_511) ?_
  intro p e s m args below meth c s₁ B hml hv
  obtain ⟨rfl, hsz, hI0, hK, hst0⟩ := hv
  have hx := B.exec
  have hb := B.bytes
  have hr := B.returns
  have hts := atoms_spec (ws := tw_tbl) B.pre
  have hown : s.vm.findClass "StoryMachine$Memory" = some m.cls := findClass_of_methodNamed B.named
  have hlocks := B.notSynchronized
  subst hsz
  have hst := fun (H : Heap) (locs : List Loc) (hS : va_S (ga (adC a) s.heap.size) s.heap H locs) (U : State) (hU : U.heap = H) (hW : s.WarmedH U.vm) => zS_all adC_map hI0 hst0 hS hU hW
  have hAC : ∀ q ∈ adC a, ga (adC a) s.heap.size q := fun q h => Or.inl h
  have hA0 : ∀ q, s.heap.size ≤ q → ga (adC a) s.heap.size q := fun q h => Or.inr h
  have hI : sI (dC, dI) vcl cI cJ (gsC a he dp co li op wd tl lc fo sf lf nf) (ga (adC a) s.heap.size) s.heap s.heap [] := ⟨hI0, va_S.rf⟩
  clear hI0 hst0
  have hl := lv_entry ([.ref (a 1), .int x1]) (n := 2) (Nat.le_of_ble_eq_true rfl)
  rw [lg_entry_eq]
  generalize (lg_sl ([.ref (a 1), .int x1]) ++ List.replicate (2 - (lg_sl ([.ref (a 1), .int x1])).length) Slot.unset).toArray = ls at hl ⊢
  have hl : lv_has ls 2 [(0, .ref (a 1)), (1, .int x1)] := hl
  generalize hZ : tz_MQ below (tq_Q (q_Me_byteAt dC dI cI cJ a he dp co li op wd tl lc fo sf lf nf x1) (ga (adC a) s.heap.size)) ([.ref (a 1), .int x1] : List Value).toArray s 0 0 1 6 (ga (adC a) s.heap.size) = Z
  obtain ⟨A, hAe⟩ : ∃ A, A = ga (adC a) s.heap.size := ⟨_, rfl⟩
  rw [← hAe] at hst hAC hA0 hI hZ
  refine sv_start hI (fun H locs hI => ?_)
  obtain ⟨⟨o1, o2⟩, ⟨o3, o4⟩, ⟨o5, o6⟩, ⟨o7, o8⟩, ⟨o9, o10⟩, ⟨o11, o12⟩, ⟨o13, o14⟩, ⟨o15, o16⟩, ⟨o17, o18⟩, o19, -, -⟩ := id hok
  have gx1 := sn_rng x1
  have j11 : ∀ (H : Heap) (locs : List Loc) (ls : Array Slot), sI (dC, dI) vcl cI cJ (gsC a he dp co li op wd tl lc fo sf lf nf) A s.heap H locs → okC he dp co li op wd tl lc fo sf lf nf → lv_has ls 2 [(0, .ref (a 1)), (1, .int x1)] → W p l e (headSpec tw_tbl rm_Me_byteAt).room s m ([.ref (a 1), .int x1] : List Value).toArray below meth c H locs 0 0 Z (F0 m 11 ls []) := by
    intro H locs ls hI hok hl
    obtain ⟨⟨o20, o21⟩, ⟨o22, o23⟩, ⟨o24, o25⟩, ⟨o26, o27⟩, ⟨o28, o29⟩, ⟨o30, o31⟩, ⟨o32, o33⟩, ⟨o34, o35⟩, ⟨o36, o37⟩, o38, -, -⟩ := id hok
    refine W.widen (k := 0) (n := 0) (Nat.le_of_ble_eq_true rfl) (Nat.le_of_ble_eq_true rfl) ?_
    subst hZ
    exact tz_thrown (tth_Me_IllegalArgumentException hx hb hfl hown hts (fun U hU hW => (hst _ _ hI.2 U hU hW).1) (by rw [hml]; exact hl.1) d_Me_byteAt_11 d_Me_byteAt_14 d_Me_byteAt_15 d_Me_byteAt_18 (tx_noH B (hts _ mw_511) _) (Nat.le_of_ble_eq_true rfl) (Nat.le_of_ble_eq_true rfl) (Nat.le_of_ble_eq_true rfl) (Nat.le_of_ble_eq_true rfl) (fun t ce hW hz hk hce hcl hvm => ⟨⟨⟨fun v9 hv9 => (by cases hv9), fun x9 hx9 => by cases hx9; exact (⟨⟨ce, hce, hcl, hvm⟩, hok, sh_kept hI.1 hk⟩)⟩, ta_thrown hI.2 hz hk⟩, _, rfl⟩) hI.2.2.2 hlocks)
  refine lv_iload_n hx hb d_Me_byteAt_0 rfl (lv_at hl 1 rfl) ?_
  refine sn_if_lt (tgt := 11) hx hb d_Me_byteAt_1 (by decide) (fun b39 => ?_) (fun b39 => ?_)
  · exact j11 _ _ _  hI hok (lv_sub hl [0, 1] rfl)
  · refine lv_iload_n hx hb d_Me_byteAt_4 rfl (lv_at hl 1 rfl) ?_
    refine sn_sipush hx hb d_Me_byteAt_5 (by decide) (fun z40 hz40 => ?_)
    refine sn_icmp_lt (tgt := 19) hx hb d_Me_byteAt_8 (by decide) (fun b41 => ?_) (fun b41 => ?_)
    · refine lv_aload_n hx hb d_Me_byteAt_19 rfl (lv_at hl 0 rfl) ?_
      refine sv_getr (C := "StoryMachine$Memory") (T := T_Me) (N := 1) hx hb hts in_Me hown hK hI 1 kC_1 rfl 0 (by decide) (hts _ mw_42) rfl d_Me_byteAt_20 ?_
      refine lv_iload_n hx hb d_Me_byteAt_23 rfl (lv_at hl 1 rfl) ?_
      refine sv_ialdr hx hb hK hI 6 kC_6 (by omega) (by omega) d_Me_byteAt_24 (fun z42 hz42a hz42b => ?_)
      subst hZ
      exact tz_ret (W.iret (v := z42) hx hb hr (fun t ht hW => ⟨⟨fun v9 hv9 => by cases hv9; exact (⟨z42, rfl, hok, by omega, by omega, by omega, by omega, by rw [ht]; exact hI.1⟩), fun x9 hx9 => (by cases hx9)⟩, hI.2.F ht⟩) hI.2.2.2 d_Me_byteAt_25)
    · exact j11 _ _ _  hI hok (lv_sub hl [0, 1] rfl)
abbrev q_Me_wordAt (dC : Nat → ClassId) (dI : Nat → Nat → Nat) (cI cJ : ClassId) (a : Nat → Nat) (he dp co li op wd tl lc fo : Int) (sf lf nf : Nat → Int32) (x1 : Int32) : Outcome → State → Prop := fun o t => (∀ v, o = .returned v → ((∃ (z : Int32), v = some (.int z) ∧ okC he dp co li op wd tl lc fo sf lf nf ∧ (0 ≤ z.toInt) ∧ (z.toInt ≤ 65535) ∧ (0 ≤ x1.toInt) ∧ (x1.toInt ≤ 510) ∧ sh_I (dC, dI) vcl cI cJ (gsC a he dp co li op wd tl lc fo sf lf nf) t.heap))) ∧ (∀ x, o = .threw x → ((ta_Ex "java/lang/IllegalArgumentException" x t ∧ okC he dp co li op wd tl lc fo sf lf nf ∧ sh_I (dC, dI) vcl cI cJ (gsC a he dp co li op wd tl lc fo sf lf nf) t.heap)))
def rm_Me_wordAt : Room := { frames := 7, cells := 1, slots := 6, locals := 130 }
set_option maxHeartbeats 4000000 in
set_option maxRecDepth 100000 in
theorem c_Me_wordAt (l : Launch) (hfl : l.flags = pinnedFlags ++ [noTraceFlag]) (dC : Nat → ClassId) (dI : Nat → Nat → Nat) (cI cJ : ClassId) (a : Nat → Nat) (sz : Nat) (he dp co li op wd tl lc fo : Int) (sf lf nf : Nat → Int32) (x1 : Int32) (hok : okC he dp co li op wd tl lc fo sf lf nf) : tz_Met l ⟨"StoryMachine$Memory", "wordAt", "(I)I"⟩ tw_tbl rm_Me_wordAt (tzP (dC, dI) vcl cI cJ (gsC a he dp co li op wd tl lc fo sf lf nf) a (adC a) [.ref (a 1), .int x1] sz) (tq_Q (q_Me_wordAt dC dI cI cJ a he dp co li op wd tl lc fo sf lf nf x1) (ga (adC a) sz)) 0 0 1 6 (ga (adC a) sz) := by
  refine tz_ofW (cc := prog_7_method_3_code) (maxL := 2) (ret := (some .int)) (by decide) (tx_isM mw_440) ?_
  intro p e s m args below meth c s₁ B hml hv
  obtain ⟨rfl, hsz, hI0, hK, hst0⟩ := hv
  have hx := B.exec
  have hb := B.bytes
  have hr := B.returns
  have hts := atoms_spec (ws := tw_tbl) B.pre
  have hown : s.vm.findClass "StoryMachine$Memory" = some m.cls := findClass_of_methodNamed B.named
  have hlocks := B.notSynchronized
  subst hsz
  have hst := fun (H : Heap) (locs : List Loc) (hS : va_S (ga (adC a) s.heap.size) s.heap H locs) (U : State) (hU : U.heap = H) (hW : s.WarmedH U.vm) => zS_all adC_map hI0 hst0 hS hU hW
  have hAC : ∀ q ∈ adC a, ga (adC a) s.heap.size q := fun q h => Or.inl h
  have hA0 : ∀ q, s.heap.size ≤ q → ga (adC a) s.heap.size q := fun q h => Or.inr h
  have hI : sI (dC, dI) vcl cI cJ (gsC a he dp co li op wd tl lc fo sf lf nf) (ga (adC a) s.heap.size) s.heap s.heap [] := ⟨hI0, va_S.rf⟩
  clear hI0 hst0
  have hl := lv_entry ([.ref (a 1), .int x1]) (n := 2) (Nat.le_of_ble_eq_true rfl)
  rw [lg_entry_eq]
  generalize (lg_sl ([.ref (a 1), .int x1]) ++ List.replicate (2 - (lg_sl ([.ref (a 1), .int x1])).length) Slot.unset).toArray = ls at hl ⊢
  have hl : lv_has ls 2 [(0, .ref (a 1)), (1, .int x1)] := hl
  generalize hZ : tz_MQ below (tq_Q (q_Me_wordAt dC dI cI cJ a he dp co li op wd tl lc fo sf lf nf x1) (ga (adC a) s.heap.size)) ([.ref (a 1), .int x1] : List Value).toArray s 0 0 1 6 (ga (adC a) s.heap.size) = Z
  obtain ⟨A, hAe⟩ : ∃ A, A = ga (adC a) s.heap.size := ⟨_, rfl⟩
  rw [← hAe] at hst hAC hA0 hI hZ
  refine sv_start hI (fun H locs hI => ?_)
  obtain ⟨⟨o1, o2⟩, ⟨o3, o4⟩, ⟨o5, o6⟩, ⟨o7, o8⟩, ⟨o9, o10⟩, ⟨o11, o12⟩, ⟨o13, o14⟩, ⟨o15, o16⟩, ⟨o17, o18⟩, o19, -, -⟩ := id hok
  have gx1 := sn_rng x1
  have j11 : ∀ (H : Heap) (locs : List Loc) (ls : Array Slot), sI (dC, dI) vcl cI cJ (gsC a he dp co li op wd tl lc fo sf lf nf) A s.heap H locs → okC he dp co li op wd tl lc fo sf lf nf → lv_has ls 2 [(0, .ref (a 1)), (1, .int x1)] → W p l e (headSpec tw_tbl rm_Me_wordAt).room s m ([.ref (a 1), .int x1] : List Value).toArray below meth c H locs 0 0 Z (F0 m 11 ls []) := by
    intro H locs ls hI hok hl
    obtain ⟨⟨o20, o21⟩, ⟨o22, o23⟩, ⟨o24, o25⟩, ⟨o26, o27⟩, ⟨o28, o29⟩, ⟨o30, o31⟩, ⟨o32, o33⟩, ⟨o34, o35⟩, ⟨o36, o37⟩, o38, -, -⟩ := id hok
    refine W.widen (k := 0) (n := 0) (Nat.le_of_ble_eq_true rfl) (Nat.le_of_ble_eq_true rfl) ?_
    subst hZ
    exact tz_thrown (tth_Me_IllegalArgumentException hx hb hfl hown hts (fun U hU hW => (hst _ _ hI.2 U hU hW).1) (by rw [hml]; exact hl.1) d_Me_wordAt_11 d_Me_wordAt_14 d_Me_wordAt_15 d_Me_wordAt_18 (tx_noH B (hts _ mw_440) _) (Nat.le_of_ble_eq_true rfl) (Nat.le_of_ble_eq_true rfl) (Nat.le_of_ble_eq_true rfl) (Nat.le_of_ble_eq_true rfl) (fun t ce hW hz hk hce hcl hvm => ⟨⟨⟨fun v9 hv9 => (by cases hv9), fun x9 hx9 => by cases hx9; exact (⟨⟨ce, hce, hcl, hvm⟩, hok, sh_kept hI.1 hk⟩)⟩, ta_thrown hI.2 hz hk⟩, _, rfl⟩) hI.2.2.2 hlocks)
  refine lv_iload_n hx hb d_Me_wordAt_0 rfl (lv_at hl 1 rfl) ?_
  refine sn_if_lt (tgt := 11) hx hb d_Me_wordAt_1 (by decide) (fun b39 => ?_) (fun b39 => ?_)
  · exact j11 _ _ _  hI hok (lv_sub hl [0, 1] rfl)
  · refine lv_iload_n hx hb d_Me_wordAt_4 rfl (lv_at hl 1 rfl) ?_
    refine sn_sipush hx hb d_Me_wordAt_5 (by decide) (fun z40 hz40 => ?_)
    refine sn_icmp_lt (tgt := 19) hx hb d_Me_wordAt_8 (by decide) (fun b41 => ?_) (fun b41 => ?_)
    · refine sn_sipush hx hb d_Me_wordAt_19 (by decide) (fun z42 hz42 => ?_)
      refine lv_aload_n hx hb d_Me_wordAt_22 rfl (lv_at hl 0 rfl) ?_
      refine sv_getr (C := "StoryMachine$Memory") (T := T_Me) (N := 1) hx hb hts in_Me hown hK hI 1 kC_1 rfl 0 (by decide) (hts _ mw_42) rfl d_Me_wordAt_23 ?_
      refine lv_iload_n hx hb d_Me_wordAt_26 rfl (lv_at hl 1 rfl) ?_
      refine sv_ialdr hx hb hK hI 6 kC_6 (by omega) (by omega) d_Me_wordAt_27 (fun z43 hz43a hz43b => ?_)
      refine sn_imulL (k := 256) hx hb d_Me_wordAt_28 (by omega) (by omega) (by omega) (fun z44 hz44 => ?_)
      refine lv_aload_n hx hb d_Me_wordAt_29 rfl (lv_at hl 0 rfl) ?_
      refine sv_getr (C := "StoryMachine$Memory") (T := T_Me) (N := 1) hx hb hts in_Me hown hK hI 1 kC_1 rfl 0 (by decide) (hts _ mw_42) rfl d_Me_wordAt_30 ?_
      refine lv_iload_n hx hb d_Me_wordAt_33 rfl (lv_at hl 1 rfl) ?_
      refine sn_iconst hx hb d_Me_wordAt_34 (by decide) (fun z45 hz45 => ?_)
      refine sn_iadd hx hb d_Me_wordAt_35 (by omega) (by omega) (fun z46 hz46 => ?_)
      refine sv_ialdr hx hb hK hI 6 kC_6 (by omega) (by omega) d_Me_wordAt_36 (fun z47 hz47a hz47b => ?_)
      refine sn_iadd hx hb d_Me_wordAt_37 (by omega) (by omega) (fun z48 hz48 => ?_)
      subst hZ
      exact tz_ret (W.iret (v := z48) hx hb hr (fun t ht hW => ⟨⟨fun v9 hv9 => by cases hv9; exact (⟨z48, rfl, hok, by omega, by omega, by omega, by omega, by rw [ht]; exact hI.1⟩), fun x9 hx9 => (by cases hx9)⟩, hI.2.F ht⟩) hI.2.2.2 d_Me_wordAt_38)
    · exact j11 _ _ _  hI hok (lv_sub hl [0, 1] rfl)
abbrev q_Me_mayWrite (dC : Nat → ClassId) (dI : Nat → Nat → Nat) (cI cJ : ClassId) (a : Nat → Nat) (he dp co li op wd tl lc fo : Int) (sf lf nf : Nat → Int32) (x1 : Int32) (x2 : Int32) : Outcome → State → Prop := fun o t => (∀ v, o = .returned v → ((∃ (z : Int32), v = some (.int z) ∧ okC he dp co li op wd tl lc fo sf lf nf ∧ (0 ≤ z.toInt) ∧ (z.toInt ≤ 0) ∧ sh_I (dC, dI) vcl cI cJ (gsC a he dp co li op wd tl lc fo sf lf nf) t.heap) ∨ (∃ (z : Int32), v = some (.int z) ∧ okC he dp co li op wd tl lc fo sf lf nf ∧ (1 ≤ z.toInt) ∧ (z.toInt ≤ 1) ∧ (16 ≤ x1.toInt) ∧ (x1.toInt ≤ 511) ∧ (x1.toInt + x2.toInt ≤ 512) ∧ sh_I (dC, dI) vcl cI cJ (gsC a he dp co li op wd tl lc fo sf lf nf) t.heap))) ∧ (∀ x, o = .threw x → (False))
def rm_Me_mayWrite : Room := { frames := 0, cells := 0, slots := 0, locals := 0 }
set_option maxHeartbeats 4000000 in
set_option maxRecDepth 100000 in
theorem c_Me_mayWrite (l : Launch) (hfl : l.flags = pinnedFlags ++ [noTraceFlag]) (dC : Nat → ClassId) (dI : Nat → Nat → Nat) (cI cJ : ClassId) (a : Nat → Nat) (sz : Nat) (he dp co li op wd tl lc fo : Int) (sf lf nf : Nat → Int32) (x1 : Int32) (x2 : Int32) (hok : okC he dp co li op wd tl lc fo sf lf nf) (hp0 : 1 ≤ x2.toInt) (hp1 : x2.toInt ≤ 2) : tz_Met l ⟨"StoryMachine$Memory", "mayWrite", "(II)Z"⟩ tw_tbl rm_Me_mayWrite (tzP (dC, dI) vcl cI cJ (gsC a he dp co li op wd tl lc fo sf lf nf) a (adC a) [.ref (a 1), .int x1, .int x2] sz) (tq_Q (q_Me_mayWrite dC dI cI cJ a he dp co li op wd tl lc fo sf lf nf x1 x2) (ga (adC a) sz)) 0 0 0 0 (ga (adC a) sz) := by
  refine tz_ofW (cc := prog_7_method_6_code) (maxL := 4) (ret := (some .boolean)) (by decide) (tx_isM mw_640) ?_
  intro p e s m args below meth c s₁ B hml hv
  obtain ⟨rfl, hsz, hI0, hK, hst0⟩ := hv
  have hx := B.exec
  have hb := B.bytes
  have hr := B.returns
  have hts := atoms_spec (ws := tw_tbl) B.pre
  have hown : s.vm.findClass "StoryMachine$Memory" = some m.cls := findClass_of_methodNamed B.named
  have hlocks := B.notSynchronized
  subst hsz
  have hst := fun (H : Heap) (locs : List Loc) (hS : va_S (ga (adC a) s.heap.size) s.heap H locs) (U : State) (hU : U.heap = H) (hW : s.WarmedH U.vm) => zS_all adC_map hI0 hst0 hS hU hW
  have hAC : ∀ q ∈ adC a, ga (adC a) s.heap.size q := fun q h => Or.inl h
  have hA0 : ∀ q, s.heap.size ≤ q → ga (adC a) s.heap.size q := fun q h => Or.inr h
  have hI : sI (dC, dI) vcl cI cJ (gsC a he dp co li op wd tl lc fo sf lf nf) (ga (adC a) s.heap.size) s.heap s.heap [] := ⟨hI0, va_S.rf⟩
  clear hI0 hst0
  have hl := lv_entry ([.ref (a 1), .int x1, .int x2]) (n := 4) (Nat.le_of_ble_eq_true rfl)
  rw [lg_entry_eq]
  generalize (lg_sl ([.ref (a 1), .int x1, .int x2]) ++ List.replicate (4 - (lg_sl ([.ref (a 1), .int x1, .int x2])).length) Slot.unset).toArray = ls at hl ⊢
  have hl : lv_has ls 4 [(0, .ref (a 1)), (1, .int x1), (2, .int x2)] := hl
  generalize hZ : tz_MQ below (tq_Q (q_Me_mayWrite dC dI cI cJ a he dp co li op wd tl lc fo sf lf nf x1 x2) (ga (adC a) s.heap.size)) ([.ref (a 1), .int x1, .int x2] : List Value).toArray s 0 0 0 0 (ga (adC a) s.heap.size) = Z
  obtain ⟨A, hAe⟩ : ∃ A, A = ga (adC a) s.heap.size := ⟨_, rfl⟩
  rw [← hAe] at hst hAC hA0 hI hZ
  refine sv_start hI (fun H locs hI => ?_)
  obtain ⟨⟨o1, o2⟩, ⟨o3, o4⟩, ⟨o5, o6⟩, ⟨o7, o8⟩, ⟨o9, o10⟩, ⟨o11, o12⟩, ⟨o13, o14⟩, ⟨o15, o16⟩, ⟨o17, o18⟩, o19, -, -⟩ := id hok
  have gx1 := sn_rng x1
  have gx2 := sn_rng x2
  refine sn_sipush hx hb d_Me_mayWrite_0 (by decide) (fun z20 hz20 => ?_)
  refine lv_aload_n hx hb d_Me_mayWrite_3 rfl (lv_at hl 0 rfl) ?_
  refine sv_getr (C := "StoryMachine$Memory") (T := T_Me) (N := 1) hx hb hts in_Me hown hK hI 1 kC_1 rfl 0 (by decide) (hts _ mw_42) rfl d_Me_mayWrite_4 ?_
  refine sn_bipush hx hb d_Me_mayWrite_7 (by decide) (fun z21 hz21 => ?_)
  refine sv_ialdr hx hb hK hI 6 kC_6 (by omega) (by omega) d_Me_mayWrite_9 (fun z22 hz22a hz22b => ?_)
  refine sn_imulL (k := 256) hx hb d_Me_mayWrite_10 (by omega) (by omega) (by omega) (fun z23 hz23 => ?_)
  refine lv_aload_n hx hb d_Me_mayWrite_11 rfl (lv_at hl 0 rfl) ?_
  refine sv_getr (C := "StoryMachine$Memory") (T := T_Me) (N := 1) hx hb hts in_Me hown hK hI 1 kC_1 rfl 0 (by decide) (hts _ mw_42) rfl d_Me_mayWrite_12 ?_
  refine sn_bipush hx hb d_Me_mayWrite_15 (by decide) (fun z24 hz24 => ?_)
  refine sv_ialdr hx hb hK hI 6 kC_6 (by omega) (by omega) d_Me_mayWrite_17 (fun z25 hz25a hz25b => ?_)
  refine sn_iadd hx hb d_Me_mayWrite_18 (by omega) (by omega) (fun z26 hz26 => ?_)
  refine lv_istore_n (lv' := [(3, .int z26), (0, .ref (a 1)), (1, .int x1), (2, .int x2)]) hx hb d_Me_mayWrite_19 rfl hl (by decide) rfl (fun ls hl => ?_)
  refine lv_iload_n hx hb d_Me_mayWrite_20 rfl (lv_at hl 2 rfl) ?_
  refine sn_bipush hx hb d_Me_mayWrite_21 (by decide) (fun z27 hz27 => ?_)
  refine sn_icmp_lt (tgt := 46) hx hb d_Me_mayWrite_23 (by decide) (fun b28 => ?_) (fun b28 => ?_)
  · refine sn_iconst hx hb d_Me_mayWrite_46 (by decide) (fun z29 hz29 => ?_)
    subst hZ
    exact tz_ret (W.zret (v := z29) hx hb hr (sn_bool (by omega) (by omega)).1 (fun t ht hW => ⟨⟨fun v9 hv9 => by cases hv9; exact (Or.inl ⟨z29, rfl, hok, by omega, by omega, by rw [ht]; exact hI.1⟩), fun x9 hx9 => (by cases hx9)⟩, hI.2.F ht⟩) hI.2.2.2 d_Me_mayWrite_47)
  · refine lv_iload_n hx hb d_Me_mayWrite_26 rfl (lv_at hl 2 rfl) ?_
    refine sn_sipush hx hb d_Me_mayWrite_27 (by decide) (fun z30 hz30 => ?_)
    refine lv_iload_n hx hb d_Me_mayWrite_30 rfl (lv_at hl 3 rfl) ?_
    refine sn_isub hx hb d_Me_mayWrite_31 (by omega) (by omega) (fun z31 hz31 => ?_)
    refine sn_icmp_gt (tgt := 46) hx hb d_Me_mayWrite_32 (by decide) (fun b32 => ?_) (fun b32 => ?_)
    · refine sn_iconst hx hb d_Me_mayWrite_46 (by decide) (fun z33 hz33 => ?_)
      subst hZ
      exact tz_ret (W.zret (v := z33) hx hb hr (sn_bool (by omega) (by omega)).1 (fun t ht hW => ⟨⟨fun v9 hv9 => by cases hv9; exact (Or.inl ⟨z33, rfl, hok, by omega, by omega, by rw [ht]; exact hI.1⟩), fun x9 hx9 => (by cases hx9)⟩, hI.2.F ht⟩) hI.2.2.2 d_Me_mayWrite_47)
    · refine lv_iload_n hx hb d_Me_mayWrite_35 rfl (lv_at hl 2 rfl) ?_
      refine lv_iload_n hx hb d_Me_mayWrite_36 rfl (lv_at hl 0 rfl) ?_
      refine lv_iload_n hx hb d_Me_mayWrite_37 rfl (lv_at hl 3 rfl) ?_
      refine sn_isub hx hb d_Me_mayWrite_38 (by omega) (by omega) (fun z34 hz34 => ?_)
      refine sn_icmp_gt (tgt := 46) hx hb d_Me_mayWrite_39 (by decide) (fun b35 => ?_) (fun b35 => ?_)
      · refine sn_iconst hx hb d_Me_mayWrite_46 (by decide) (fun z36 hz36 => ?_)
        subst hZ
        exact tz_ret (W.zret (v := z36) hx hb hr (sn_bool (by omega) (by omega)).1 (fun t ht hW => ⟨⟨fun v9 hv9 => by cases hv9; exact (Or.inl ⟨z36, rfl, hok, by omega, by omega, by rw [ht]; exact hI.1⟩), fun x9 hx9 => (by cases hx9)⟩, hI.2.F ht⟩) hI.2.2.2 d_Me_mayWrite_47)
      · refine sn_iconst hx hb d_Me_mayWrite_42 (by decide) (fun z37 hz37 => ?_)
        refine lv_goto (tgt := 47) hx hb d_Me_mayWrite_43 (by decide) ?_
        subst hZ
        exact tz_ret (W.zret (v := z37) hx hb hr (sn_bool (by omega) (by omega)).1 (fun t ht hW => ⟨⟨fun v9 hv9 => by cases hv9; exact (Or.inr (⟨z37, rfl, hok, by omega, by omega, by omega, by omega, by omega, by rw [ht]; exact hI.1⟩)), fun x9 hx9 => (by cases hx9)⟩, hI.2.F ht⟩) hI.2.2.2 d_Me_mayWrite_47)
abbrev q_Me_writeByte (dC : Nat → ClassId) (dI : Nat → Nat → Nat) (cI cJ : ClassId) (a : Nat → Nat) (he dp co li op wd tl lc fo : Int) (sf lf nf : Nat → Int32) (x1 : Int32) (x2 : Int32) : Outcome → State → Prop := fun o t => (∀ v, o = .returned v → ((v = none ∧ okC he dp co li op wd tl lc fo sf lf nf ∧ (16 ≤ x1.toInt) ∧ (x1.toInt ≤ 511) ∧ sh_I (dC, dI) vcl cI cJ (gsC a he dp co li op wd tl lc fo sf lf nf) t.heap))) ∧ (∀ x, o = .threw x → ((ta_Ex "java/lang/IllegalArgumentException" x t ∧ okC he dp co li op wd tl lc fo sf lf nf ∧ sh_I (dC, dI) vcl cI cJ (gsC a he dp co li op wd tl lc fo sf lf nf) t.heap)))
def rm_Me_writeByte : Room := { frames := 7, cells := 1, slots := 6, locals := 130 }
set_option maxHeartbeats 4000000 in
set_option maxRecDepth 100000 in
theorem c_Me_writeByte (l : Launch) (hfl : l.flags = pinnedFlags ++ [noTraceFlag]) (dC : Nat → ClassId) (dI : Nat → Nat → Nat) (cI cJ : ClassId) (a : Nat → Nat) (sz : Nat) (he dp co li op wd tl lc fo : Int) (sf lf nf : Nat → Int32) (x1 : Int32) (x2 : Int32) (hok : okC he dp co li op wd tl lc fo sf lf nf) : tz_Met l ⟨"StoryMachine$Memory", "writeByte", "(II)V"⟩ tw_tbl rm_Me_writeByte (tzP (dC, dI) vcl cI cJ (gsC a he dp co li op wd tl lc fo sf lf nf) a (adC a) [.ref (a 1), .int x1, .int x2] sz) (tq_Q (q_Me_writeByte dC dI cI cJ a he dp co li op wd tl lc fo sf lf nf x1 x2) (ga (adC a) sz)) 0 0 1 6 (ga (adC a) sz) := by
  refine tz_ofW (cc := prog_7_method_4_code) (maxL := 3) (ret := none) (by decide) (tx_isM mw_781) ?_
  intro p e s m args below meth c s₁ B hml hv
  obtain ⟨rfl, hsz, hI0, hK, hst0⟩ := hv
  have hx := B.exec
  have hb := B.bytes
  have hr := B.returns
  have hts := atoms_spec (ws := tw_tbl) B.pre
  have hown : s.vm.findClass "StoryMachine$Memory" = some m.cls := findClass_of_methodNamed B.named
  have hlocks := B.notSynchronized
  subst hsz
  have hst := fun (H : Heap) (locs : List Loc) (hS : va_S (ga (adC a) s.heap.size) s.heap H locs) (U : State) (hU : U.heap = H) (hW : s.WarmedH U.vm) => zS_all adC_map hI0 hst0 hS hU hW
  have hAC : ∀ q ∈ adC a, ga (adC a) s.heap.size q := fun q h => Or.inl h
  have hA0 : ∀ q, s.heap.size ≤ q → ga (adC a) s.heap.size q := fun q h => Or.inr h
  have hI : sI (dC, dI) vcl cI cJ (gsC a he dp co li op wd tl lc fo sf lf nf) (ga (adC a) s.heap.size) s.heap s.heap [] := ⟨hI0, va_S.rf⟩
  clear hI0 hst0
  have hl := lv_entry ([.ref (a 1), .int x1, .int x2]) (n := 3) (Nat.le_of_ble_eq_true rfl)
  rw [lg_entry_eq]
  generalize (lg_sl ([.ref (a 1), .int x1, .int x2]) ++ List.replicate (3 - (lg_sl ([.ref (a 1), .int x1, .int x2])).length) Slot.unset).toArray = ls at hl ⊢
  have hl : lv_has ls 3 [(0, .ref (a 1)), (1, .int x1), (2, .int x2)] := hl
  generalize hZ : tz_MQ below (tq_Q (q_Me_writeByte dC dI cI cJ a he dp co li op wd tl lc fo sf lf nf x1 x2) (ga (adC a) s.heap.size)) ([.ref (a 1), .int x1, .int x2] : List Value).toArray s 0 0 1 6 (ga (adC a) s.heap.size) = Z
  obtain ⟨A, hAe⟩ : ∃ A, A = ga (adC a) s.heap.size := ⟨_, rfl⟩
  rw [← hAe] at hst hAC hA0 hI hZ
  refine sv_start hI (fun H locs hI => ?_)
  obtain ⟨⟨o1, o2⟩, ⟨o3, o4⟩, ⟨o5, o6⟩, ⟨o7, o8⟩, ⟨o9, o10⟩, ⟨o11, o12⟩, ⟨o13, o14⟩, ⟨o15, o16⟩, ⟨o17, o18⟩, o19, -, -⟩ := id hok
  have gx1 := sn_rng x1
  have gx2 := sn_rng x2
  refine lv_aload_n hx hb d_Me_writeByte_0 rfl (lv_at hl 0 rfl) ?_
  refine lv_iload_n hx hb d_Me_writeByte_1 rfl (lv_at hl 1 rfl) ?_
  refine sn_iconst hx hb d_Me_writeByte_2 (by decide) (fun z20 hz20 => ?_)
  refine tz_call (A1 := ga (adC a) H.size) (tz_runV (C := "StoryMachine$Memory") (As := [.int x1, .int z20]) (rest := []) ⟨hx, hb, hml, hown, hts⟩ (c_Me_mayWrite l hfl dC dI cI cJ a H.size he dp co li op wd tl lc fo sf lf nf x1 z20 hok (by omega) (by omega)) (tx_cb (n := 2) hts rfl rfl ⟨Nat.le_of_ble_eq_true rfl, Nat.le_of_ble_eq_true rfl⟩ (tx_code.of (hts _ mw_640)) (hts _ mw_2) (by decide +kernel) (hts _ mw_637)) (hts _ mw_639) (hts _ ms_Me_mayWrite) ⟨tz_blind, sv_recv (q0 := 1) hts in_Me hK hI kC_1 rfl, fun U hU hW => ⟨rfl, by rw [hU], by rw [hU]; exact hI.1, va_K.moved hW.alike hK, hst _ _ hI.2 U hU hW⟩⟩ rfl rfl hl.1 rfl (lv_room (Nat.le_of_ble_eq_true rfl)) d_Me_writeByte_3 ⟨Nat.le_of_ble_eq_true rfl, Nat.le_of_ble_eq_true rfl⟩) hI.2 (fun q _ h => ga_sub hAC hA0 hI.2 q h) (ga_sub hAC hA0 hI.2) (fun v t H1 locs1 ht hWt hpost _ _ hS => ?_) (fun x t H1 locs1 ht hWt hpost _ _ hS => (hpost.2 x rfl).elim)
  rcases hpost.1 _ rfl with ⟨z21, hv, c22, c22_0, c22_1, hI1⟩ | ⟨z23, hv, c24, c24_0, c24_1, c24_2, c24_3, c24_4, hI1⟩
  · cases hv
    have hI : sI (dC, dI) vcl cI cJ (gsC a he dp co li op wd tl lc fo sf lf nf) A s.heap H1 locs1 := ⟨by rw [← ht]; exact hI1, hS⟩
    clear hpost hI1 hS ht hWt
    revert hI; generalize H1 = H; generalize locs1 = locs; intro hI
    refine sn_if_ne (tgt := 17) hx hb d_Me_writeByte_6 (by decide) (fun b25 => ?_) (fun b25 => ?_)
    · omega
    · refine W.widen (k := 0) (n := 0) (Nat.le_of_ble_eq_true rfl) (Nat.le_of_ble_eq_true rfl) ?_
      subst hZ
      exact tz_thrown (tth_Me_IllegalArgumentException hx hb hfl hown hts (fun U hU hW => (hst _ _ hI.2 U hU hW).1) (by rw [hml]; exact hl.1) d_Me_writeByte_9 d_Me_writeByte_12 d_Me_writeByte_13 d_Me_writeByte_16 (tx_noH B (hts _ mw_781) _) (Nat.le_of_ble_eq_true rfl) (Nat.le_of_ble_eq_true rfl) (Nat.le_of_ble_eq_true rfl) (Nat.le_of_ble_eq_true rfl) (fun t ce hW hz hk hce hcl hvm => ⟨⟨⟨fun v9 hv9 => (by cases hv9), fun x9 hx9 => by cases hx9; exact (⟨⟨ce, hce, hcl, hvm⟩, c22, sh_kept hI.1 hk⟩)⟩, ta_thrown hI.2 hz hk⟩, _, rfl⟩) hI.2.2.2 hlocks)
  · cases hv
    have hI : sI (dC, dI) vcl cI cJ (gsC a he dp co li op wd tl lc fo sf lf nf) A s.heap H1 locs1 := ⟨by rw [← ht]; exact hI1, hS⟩
    clear hpost hI1 hS ht hWt
    revert hI; generalize H1 = H; generalize locs1 = locs; intro hI
    refine sn_if_ne (tgt := 17) hx hb d_Me_writeByte_6 (by decide) (fun b26 => ?_) (fun b26 => ?_)
    · refine lv_aload_n hx hb d_Me_writeByte_17 rfl (lv_at hl 0 rfl) ?_
      refine sv_getr (C := "StoryMachine$Memory") (T := T_Me) (N := 1) hx hb hts in_Me hown hK hI 1 kC_1 rfl 0 (by decide) (hts _ mw_42) rfl d_Me_writeByte_18 ?_
      refine lv_iload_n hx hb d_Me_writeByte_21 rfl (lv_at hl 1 rfl) ?_
      refine lv_iload_n hx hb d_Me_writeByte_22 rfl (lv_at hl 2 rfl) ?_
      refine sn_sipush hx hb d_Me_writeByte_23 (by decide) (fun z27 hz27 => ?_)
      refine sn_iand (k := 8) (M := 255) hx hb d_Me_writeByte_26 (by decide) (by decide) (by omega) (fun z28 hz28a hz28b hz28c => ?_)
      clear hz28c
      refine sv_iastr hx hb hK (sh_in adC_map hAC) hI 6 kC_6 (by omega) (by omega) (by omega) (by omega) pC_6 d_Me_writeByte_27 (fun H locs hI => ?_)
      subst hZ
      exact tz_ret (W.vret hx hb hr (fun t ht hW => ⟨⟨fun v9 hv9 => by cases hv9; exact (⟨rfl, c24, by omega, by omega, by rw [ht]; exact hI.1⟩), fun x9 hx9 => (by cases hx9)⟩, hI.2.F ht⟩) hI.2.2.2 d_Me_writeByte_28)
    · omega
abbrev q_Me_writeWord (dC : Nat → ClassId) (dI : Nat → Nat → Nat) (cI cJ : ClassId) (a : Nat → Nat) (he dp co li op wd tl lc fo : Int) (sf lf nf : Nat → Int32) (x1 : Int32) (x2 : Int32) : Outcome → State → Prop := fun o t => (∀ v, o = .returned v → ((v = none ∧ okC he dp co li op wd tl lc fo sf lf nf ∧ (16 ≤ x1.toInt) ∧ (x1.toInt ≤ 511) ∧ sh_I (dC, dI) vcl cI cJ (gsC a he dp co li op wd tl lc fo sf lf nf) t.heap))) ∧ (∀ x, o = .threw x → ((ta_Ex "java/lang/IllegalArgumentException" x t ∧ okC he dp co li op wd tl lc fo sf lf nf ∧ sh_I (dC, dI) vcl cI cJ (gsC a he dp co li op wd tl lc fo sf lf nf) t.heap)))
def rm_Me_writeWord : Room := { frames := 7, cells := 1, slots := 6, locals := 130 }
set_option maxHeartbeats 4000000 in
set_option maxRecDepth 100000 in
theorem c_Me_writeWord (l : Launch) (hfl : l.flags = pinnedFlags ++ [noTraceFlag]) (dC : Nat → ClassId) (dI : Nat → Nat → Nat) (cI cJ : ClassId) (a : Nat → Nat) (sz : Nat) (he dp co li op wd tl lc fo : Int) (sf lf nf : Nat → Int32) (x1 : Int32) (x2 : Int32) (hok : okC he dp co li op wd tl lc fo sf lf nf) : tz_Met l ⟨"StoryMachine$Memory", "writeWord", "(II)V"⟩ tw_tbl rm_Me_writeWord (tzP (dC, dI) vcl cI cJ (gsC a he dp co li op wd tl lc fo sf lf nf) a (adC a) [.ref (a 1), .int x1, .int x2] sz) (tq_Q (q_Me_writeWord dC dI cI cJ a he dp co li op wd tl lc fo sf lf nf x1 x2) (ga (adC a) sz)) 0 0 1 6 (ga (adC a) sz) := by
  refine tz_ofW (cc := prog_7_method_5_code) (maxL := 3) (ret := none) (by decide) (tx_isM mw_636) ?_
  intro p e s m args below meth c s₁ B hml hv
  obtain ⟨rfl, hsz, hI0, hK, hst0⟩ := hv
  have hx := B.exec
  have hb := B.bytes
  have hr := B.returns
  have hts := atoms_spec (ws := tw_tbl) B.pre
  have hown : s.vm.findClass "StoryMachine$Memory" = some m.cls := findClass_of_methodNamed B.named
  have hlocks := B.notSynchronized
  subst hsz
  have hst := fun (H : Heap) (locs : List Loc) (hS : va_S (ga (adC a) s.heap.size) s.heap H locs) (U : State) (hU : U.heap = H) (hW : s.WarmedH U.vm) => zS_all adC_map hI0 hst0 hS hU hW
  have hAC : ∀ q ∈ adC a, ga (adC a) s.heap.size q := fun q h => Or.inl h
  have hA0 : ∀ q, s.heap.size ≤ q → ga (adC a) s.heap.size q := fun q h => Or.inr h
  have hI : sI (dC, dI) vcl cI cJ (gsC a he dp co li op wd tl lc fo sf lf nf) (ga (adC a) s.heap.size) s.heap s.heap [] := ⟨hI0, va_S.rf⟩
  clear hI0 hst0
  have hl := lv_entry ([.ref (a 1), .int x1, .int x2]) (n := 3) (Nat.le_of_ble_eq_true rfl)
  rw [lg_entry_eq]
  generalize (lg_sl ([.ref (a 1), .int x1, .int x2]) ++ List.replicate (3 - (lg_sl ([.ref (a 1), .int x1, .int x2])).length) Slot.unset).toArray = ls at hl ⊢
  have hl : lv_has ls 3 [(0, .ref (a 1)), (1, .int x1), (2, .int x2)] := hl
  generalize hZ : tz_MQ below (tq_Q (q_Me_writeWord dC dI cI cJ a he dp co li op wd tl lc fo sf lf nf x1 x2) (ga (adC a) s.heap.size)) ([.ref (a 1), .int x1, .int x2] : List Value).toArray s 0 0 1 6 (ga (adC a) s.heap.size) = Z
  obtain ⟨A, hAe⟩ : ∃ A, A = ga (adC a) s.heap.size := ⟨_, rfl⟩
  rw [← hAe] at hst hAC hA0 hI hZ
  refine sv_start hI (fun H locs hI => ?_)
  obtain ⟨⟨o1, o2⟩, ⟨o3, o4⟩, ⟨o5, o6⟩, ⟨o7, o8⟩, ⟨o9, o10⟩, ⟨o11, o12⟩, ⟨o13, o14⟩, ⟨o15, o16⟩, ⟨o17, o18⟩, o19, -, -⟩ := id hok
  have gx1 := sn_rng x1
  have gx2 := sn_rng x2
  refine lv_aload_n hx hb d_Me_writeWord_0 rfl (lv_at hl 0 rfl) ?_
  refine lv_iload_n hx hb d_Me_writeWord_1 rfl (lv_at hl 1 rfl) ?_
  refine sn_iconst hx hb d_Me_writeWord_2 (by decide) (fun z20 hz20 => ?_)
  refine tz_call (A1 := ga (adC a) H.size) (tz_runV (C := "StoryMachine$Memory") (As := [.int x1, .int z20]) (rest := []) ⟨hx, hb, hml, hown, hts⟩ (c_Me_mayWrite l hfl dC dI cI cJ a H.size he dp co li op wd tl lc fo sf lf nf x1 z20 hok (by omega) (by omega)) (tx_cb (n := 2) hts rfl rfl ⟨Nat.le_of_ble_eq_true rfl, Nat.le_of_ble_eq_true rfl⟩ (tx_code.of (hts _ mw_640)) (hts _ mw_2) (by decide +kernel) (hts _ mw_637)) (hts _ mw_639) (hts _ ms_Me_mayWrite) ⟨tz_blind, sv_recv (q0 := 1) hts in_Me hK hI kC_1 rfl, fun U hU hW => ⟨rfl, by rw [hU], by rw [hU]; exact hI.1, va_K.moved hW.alike hK, hst _ _ hI.2 U hU hW⟩⟩ rfl rfl hl.1 rfl (lv_room (Nat.le_of_ble_eq_true rfl)) d_Me_writeWord_3 ⟨Nat.le_of_ble_eq_true rfl, Nat.le_of_ble_eq_true rfl⟩) hI.2 (fun q _ h => ga_sub hAC hA0 hI.2 q h) (ga_sub hAC hA0 hI.2) (fun v t H1 locs1 ht hWt hpost _ _ hS => ?_) (fun x t H1 locs1 ht hWt hpost _ _ hS => (hpost.2 x rfl).elim)
  rcases hpost.1 _ rfl with ⟨z21, hv, c22, c22_0, c22_1, hI1⟩ | ⟨z23, hv, c24, c24_0, c24_1, c24_2, c24_3, c24_4, hI1⟩
  · cases hv
    have hI : sI (dC, dI) vcl cI cJ (gsC a he dp co li op wd tl lc fo sf lf nf) A s.heap H1 locs1 := ⟨by rw [← ht]; exact hI1, hS⟩
    clear hpost hI1 hS ht hWt
    revert hI; generalize H1 = H; generalize locs1 = locs; intro hI
    refine sn_if_ne (tgt := 17) hx hb d_Me_writeWord_6 (by decide) (fun b25 => ?_) (fun b25 => ?_)
    · omega
    · refine W.widen (k := 0) (n := 0) (Nat.le_of_ble_eq_true rfl) (Nat.le_of_ble_eq_true rfl) ?_
      subst hZ
      exact tz_thrown (tth_Me_IllegalArgumentException hx hb hfl hown hts (fun U hU hW => (hst _ _ hI.2 U hU hW).1) (by rw [hml]; exact hl.1) d_Me_writeWord_9 d_Me_writeWord_12 d_Me_writeWord_13 d_Me_writeWord_16 (tx_noH B (hts _ mw_636) _) (Nat.le_of_ble_eq_true rfl) (Nat.le_of_ble_eq_true rfl) (Nat.le_of_ble_eq_true rfl) (Nat.le_of_ble_eq_true rfl) (fun t ce hW hz hk hce hcl hvm => ⟨⟨⟨fun v9 hv9 => (by cases hv9), fun x9 hx9 => by cases hx9; exact (⟨⟨ce, hce, hcl, hvm⟩, c22, sh_kept hI.1 hk⟩)⟩, ta_thrown hI.2 hz hk⟩, _, rfl⟩) hI.2.2.2 hlocks)
  · cases hv
    have hI : sI (dC, dI) vcl cI cJ (gsC a he dp co li op wd tl lc fo sf lf nf) A s.heap H1 locs1 := ⟨by rw [← ht]; exact hI1, hS⟩
    clear hpost hI1 hS ht hWt
    revert hI; generalize H1 = H; generalize locs1 = locs; intro hI
    refine sn_if_ne (tgt := 17) hx hb d_Me_writeWord_6 (by decide) (fun b26 => ?_) (fun b26 => ?_)
    · refine lv_aload_n hx hb d_Me_writeWord_17 rfl (lv_at hl 0 rfl) ?_
      refine sv_getr (C := "StoryMachine$Memory") (T := T_Me) (N := 1) hx hb hts in_Me hown hK hI 1 kC_1 rfl 0 (by decide) (hts _ mw_42) rfl d_Me_writeWord_18 ?_
      refine lv_iload_n hx hb d_Me_writeWord_21 rfl (lv_at hl 1 rfl) ?_
      refine lv_iload_n hx hb d_Me_writeWord_22 rfl (lv_at hl 2 rfl) ?_
      refine sn_bipush hx hb d_Me_writeWord_23 (by decide) (fun z27 hz27 => ?_)
      refine sn_ishrT hx hb d_Me_writeWord_25 (fun z28 hz28a hz28b => ?_)
      refine sn_sipush hx hb d_Me_writeWord_26 (by decide) (fun z29 hz29 => ?_)
      refine sn_iand (k := 8) (M := 255) hx hb d_Me_writeWord_29 (by decide) (by decide) (by omega) (fun z30 hz30a hz30b hz30c => ?_)
      clear hz30c
      refine sv_iastr hx hb hK (sh_in adC_map hAC) hI 6 kC_6 (by omega) (by omega) (by omega) (by omega) pC_6 d_Me_writeWord_30 (fun H locs hI => ?_)
      refine lv_aload_n hx hb d_Me_writeWord_31 rfl (lv_at hl 0 rfl) ?_
      refine sv_getr (C := "StoryMachine$Memory") (T := T_Me) (N := 1) hx hb hts in_Me hown hK hI 1 kC_1 rfl 0 (by decide) (hts _ mw_42) rfl d_Me_writeWord_32 ?_
      refine lv_iload_n hx hb d_Me_writeWord_35 rfl (lv_at hl 1 rfl) ?_
      refine sn_iconst hx hb d_Me_writeWord_36 (by decide) (fun z31 hz31 => ?_)
      refine sn_iadd hx hb d_Me_writeWord_37 (by omega) (by omega) (fun z32 hz32 => ?_)
      refine lv_iload_n hx hb d_Me_writeWord_38 rfl (lv_at hl 2 rfl) ?_
      refine sn_sipush hx hb d_Me_writeWord_39 (by decide) (fun z33 hz33 => ?_)
      refine sn_iand (k := 8) (M := 255) hx hb d_Me_writeWord_42 (by decide) (by decide) (by omega) (fun z34 hz34a hz34b hz34c => ?_)
      clear hz34c
      refine sv_iastr hx hb hK (sh_in adC_map hAC) hI 6 kC_6 (by omega) (by omega) (by omega) (by omega) pC_6 d_Me_writeWord_43 (fun H locs hI => ?_)
      subst hZ
      exact tz_ret (W.vret hx hb hr (fun t ht hW => ⟨⟨fun v9 hv9 => by cases hv9; exact (⟨rfl, c24, by omega, by omega, by rw [ht]; exact hI.1⟩), fun x9 hx9 => (by cases hx9)⟩, hI.2.F ht⟩) hI.2.2.2 d_Me_writeWord_44)
    · omega
abbrev q_Me_copyFrom_1 (dC : Nat → ClassId) (dI : Nat → Nat → Nat) (cI cJ : ClassId) (a : Nat → Nat) (he dp co li op wd tl lc fo : Int) (sf lf nf : Nat → Int32) : Outcome → State → Prop := fun o t => (∀ v, o = .returned v → ((v = none ∧ okC he dp co li op wd tl lc fo sf lf nf ∧ sh_I (dC, dI) vcl cI cJ (gsC a he dp co li op wd tl lc fo sf lf nf) t.heap))) ∧ (∀ x, o = .threw x → (False))
def rm_Me_copyFrom_1 : Room := { frames := 1, cells := 0, slots := 0, locals := 60 }
set_option maxHeartbeats 4000000 in
set_option maxRecDepth 100000 in
theorem c_Me_copyFrom_1 (l : Launch) (hfl : l.flags = pinnedFlags ++ [noTraceFlag]) (dC : Nat → ClassId) (dI : Nat → Nat → Nat) (cI cJ : ClassId) (a : Nat → Nat) (sz : Nat) (he dp co li op wd tl lc fo : Int) (sf lf nf : Nat → Int32) (hok : okC he dp co li op wd tl lc fo sf lf nf) : tz_Met l ⟨"StoryMachine$Memory", "copyFrom", "(LStoryMachine$Memory;)V"⟩ tw_tbl rm_Me_copyFrom_1 (tzP (dC, dI) vcl cI cJ (gsC a he dp co li op wd tl lc fo sf lf nf) a (adC a) [.ref (a 1), .ref (a 26)] sz) (tq_Q (q_Me_copyFrom_1 dC dI cI cJ a he dp co li op wd tl lc fo sf lf nf) (ga (adC a) sz)) 0 0 0 0 (ga (adC a) sz) := by
  refine tz_ofW (cc := prog_7_method_7_code) (maxL := 2) (ret := none) (by decide) (tx_isM mw_714) ?_
  intro p e s m args below meth c s₁ B hml hv
  obtain ⟨rfl, hsz, hI0, hK, hst0⟩ := hv
  have hx := B.exec
  have hb := B.bytes
  have hr := B.returns
  have hts := atoms_spec (ws := tw_tbl) B.pre
  have hown : s.vm.findClass "StoryMachine$Memory" = some m.cls := findClass_of_methodNamed B.named
  have hlocks := B.notSynchronized
  subst hsz
  have hst := fun (H : Heap) (locs : List Loc) (hS : va_S (ga (adC a) s.heap.size) s.heap H locs) (U : State) (hU : U.heap = H) (hW : s.WarmedH U.vm) => zS_all adC_map hI0 hst0 hS hU hW
  have hAC : ∀ q ∈ adC a, ga (adC a) s.heap.size q := fun q h => Or.inl h
  have hA0 : ∀ q, s.heap.size ≤ q → ga (adC a) s.heap.size q := fun q h => Or.inr h
  have hI : sI (dC, dI) vcl cI cJ (gsC a he dp co li op wd tl lc fo sf lf nf) (ga (adC a) s.heap.size) s.heap s.heap [] := ⟨hI0, va_S.rf⟩
  clear hI0 hst0
  have hl := lv_entry ([.ref (a 1), .ref (a 26)]) (n := 2) (Nat.le_of_ble_eq_true rfl)
  rw [lg_entry_eq]
  generalize (lg_sl ([.ref (a 1), .ref (a 26)]) ++ List.replicate (2 - (lg_sl ([.ref (a 1), .ref (a 26)])).length) Slot.unset).toArray = ls at hl ⊢
  have hl : lv_has ls 2 [(0, .ref (a 1)), (1, .ref (a 26))] := hl
  generalize hZ : tz_MQ below (tq_Q (q_Me_copyFrom_1 dC dI cI cJ a he dp co li op wd tl lc fo sf lf nf) (ga (adC a) s.heap.size)) ([.ref (a 1), .ref (a 26)] : List Value).toArray s 0 0 0 0 (ga (adC a) s.heap.size) = Z
  obtain ⟨A, hAe⟩ : ∃ A, A = ga (adC a) s.heap.size := ⟨_, rfl⟩
  rw [← hAe] at hst hAC hA0 hI hZ
  refine sv_start hI (fun H locs hI => ?_)
  obtain ⟨⟨o1, o2⟩, ⟨o3, o4⟩, ⟨o5, o6⟩, ⟨o7, o8⟩, ⟨o9, o10⟩, ⟨o11, o12⟩, ⟨o13, o14⟩, ⟨o15, o16⟩, ⟨o17, o18⟩, o19, -, -⟩ := id hok
  refine lv_aload_n hx hb d_Me_copyFrom_0 rfl (lv_at hl 1 rfl) ?_
  refine sv_getr (C := "StoryMachine$Memory") (T := T_Me) (N := 1) hx hb hts in_Me hown hK hI 26 kC_26 rfl 0 (by decide) (hts _ mw_42) rfl d_Me_copyFrom_1 ?_
  refine sn_iconst hx hb d_Me_copyFrom_4 (by decide) (fun z20 hz20 => ?_)
  refine lv_aload_n hx hb d_Me_copyFrom_5 rfl (lv_at hl 0 rfl) ?_
  refine sv_getr (C := "StoryMachine$Memory") (T := T_Me) (N := 1) hx hb hts in_Me hown hK hI 1 kC_1 rfl 0 (by decide) (hts _ mw_42) rfl d_Me_copyFrom_6 ?_
  refine sn_iconst hx hb d_Me_copyFrom_9 (by decide) (fun z21 hz21 => ?_)
  refine sn_sipush hx hb d_Me_copyFrom_10 (by decide) (fun z22 hz22 => ?_)
  refine sj_copy hx hb (by rw [hml]; exact hl.1.symm) hown (hts _ mw_715) (hts _ mw_717) (hts _ mw_716) (hts _ mw_23) hK (sh_in adC_map hAC) hI 28 6 (lo := 0) (hi := 255) kC_28 kC_6 (fun _ h => h) (fun _ h => h) (by omega) (by omega) (by omega) (by omega) (by omega) (Nat.le_of_ble_eq_true rfl) (Nat.le_of_ble_eq_true rfl) pC_6 d_Me_copyFrom_13 (fun H locs hI => ?_)
  subst hZ
  exact tz_ret (W.vret hx hb hr (fun t ht hW => ⟨⟨fun v9 hv9 => by cases hv9; exact (⟨rfl, hok, by rw [ht]; exact hI.1⟩), fun x9 hx9 => (by cases hx9)⟩, hI.2.F ht⟩) hI.2.2.2 d_Me_copyFrom_16)
abbrev q_Me_copyFrom_26 (dC : Nat → ClassId) (dI : Nat → Nat → Nat) (cI cJ : ClassId) (a : Nat → Nat) (he dp co li op wd tl lc fo : Int) (sf lf nf : Nat → Int32) : Outcome → State → Prop := fun o t => (∀ v, o = .returned v → ((v = none ∧ okC he dp co li op wd tl lc fo sf lf nf ∧ sh_I (dC, dI) vcl cI cJ (gsC a he dp co li op wd tl lc fo sf lf nf) t.heap))) ∧ (∀ x, o = .threw x → (False))
def rm_Me_copyFrom_26 : Room := { frames := 1, cells := 0, slots := 0, locals := 60 }
set_option maxHeartbeats 4000000 in
set_option maxRecDepth 100000 in
theorem c_Me_copyFrom_26 (l : Launch) (hfl : l.flags = pinnedFlags ++ [noTraceFlag]) (dC : Nat → ClassId) (dI : Nat → Nat → Nat) (cI cJ : ClassId) (a : Nat → Nat) (sz : Nat) (he dp co li op wd tl lc fo : Int) (sf lf nf : Nat → Int32) (hok : okC he dp co li op wd tl lc fo sf lf nf) : tz_Met l ⟨"StoryMachine$Memory", "copyFrom", "(LStoryMachine$Memory;)V"⟩ tw_tbl rm_Me_copyFrom_26 (tzP (dC, dI) vcl cI cJ (gsC a he dp co li op wd tl lc fo sf lf nf) a (adC a) [.ref (a 26), .ref (a 1)] sz) (tq_Q (q_Me_copyFrom_26 dC dI cI cJ a he dp co li op wd tl lc fo sf lf nf) (ga (adC a) sz)) 0 0 0 0 (ga (adC a) sz) := by
  refine tz_ofW (cc := prog_7_method_7_code) (maxL := 2) (ret := none) (by decide) (tx_isM mw_714) ?_
  intro p e s m args below meth c s₁ B hml hv
  obtain ⟨rfl, hsz, hI0, hK, hst0⟩ := hv
  have hx := B.exec
  have hb := B.bytes
  have hr := B.returns
  have hts := atoms_spec (ws := tw_tbl) B.pre
  have hown : s.vm.findClass "StoryMachine$Memory" = some m.cls := findClass_of_methodNamed B.named
  have hlocks := B.notSynchronized
  subst hsz
  have hst := fun (H : Heap) (locs : List Loc) (hS : va_S (ga (adC a) s.heap.size) s.heap H locs) (U : State) (hU : U.heap = H) (hW : s.WarmedH U.vm) => zS_all adC_map hI0 hst0 hS hU hW
  have hAC : ∀ q ∈ adC a, ga (adC a) s.heap.size q := fun q h => Or.inl h
  have hA0 : ∀ q, s.heap.size ≤ q → ga (adC a) s.heap.size q := fun q h => Or.inr h
  have hI : sI (dC, dI) vcl cI cJ (gsC a he dp co li op wd tl lc fo sf lf nf) (ga (adC a) s.heap.size) s.heap s.heap [] := ⟨hI0, va_S.rf⟩
  clear hI0 hst0
  have hl := lv_entry ([.ref (a 26), .ref (a 1)]) (n := 2) (Nat.le_of_ble_eq_true rfl)
  rw [lg_entry_eq]
  generalize (lg_sl ([.ref (a 26), .ref (a 1)]) ++ List.replicate (2 - (lg_sl ([.ref (a 26), .ref (a 1)])).length) Slot.unset).toArray = ls at hl ⊢
  have hl : lv_has ls 2 [(0, .ref (a 26)), (1, .ref (a 1))] := hl
  generalize hZ : tz_MQ below (tq_Q (q_Me_copyFrom_26 dC dI cI cJ a he dp co li op wd tl lc fo sf lf nf) (ga (adC a) s.heap.size)) ([.ref (a 26), .ref (a 1)] : List Value).toArray s 0 0 0 0 (ga (adC a) s.heap.size) = Z
  obtain ⟨A, hAe⟩ : ∃ A, A = ga (adC a) s.heap.size := ⟨_, rfl⟩
  rw [← hAe] at hst hAC hA0 hI hZ
  refine sv_start hI (fun H locs hI => ?_)
  obtain ⟨⟨o1, o2⟩, ⟨o3, o4⟩, ⟨o5, o6⟩, ⟨o7, o8⟩, ⟨o9, o10⟩, ⟨o11, o12⟩, ⟨o13, o14⟩, ⟨o15, o16⟩, ⟨o17, o18⟩, o19, -, -⟩ := id hok
  refine lv_aload_n hx hb d_Me_copyFrom_0 rfl (lv_at hl 1 rfl) ?_
  refine sv_getr (C := "StoryMachine$Memory") (T := T_Me) (N := 1) hx hb hts in_Me hown hK hI 1 kC_1 rfl 0 (by decide) (hts _ mw_42) rfl d_Me_copyFrom_1 ?_
  refine sn_iconst hx hb d_Me_copyFrom_4 (by decide) (fun z20 hz20 => ?_)
  refine lv_aload_n hx hb d_Me_copyFrom_5 rfl (lv_at hl 0 rfl) ?_
  refine sv_getr (C := "StoryMachine$Memory") (T := T_Me) (N := 1) hx hb hts in_Me hown hK hI 26 kC_26 rfl 0 (by decide) (hts _ mw_42) rfl d_Me_copyFrom_6 ?_
  refine sn_iconst hx hb d_Me_copyFrom_9 (by decide) (fun z21 hz21 => ?_)
  refine sn_sipush hx hb d_Me_copyFrom_10 (by decide) (fun z22 hz22 => ?_)
  refine sj_copy hx hb (by rw [hml]; exact hl.1.symm) hown (hts _ mw_715) (hts _ mw_717) (hts _ mw_716) (hts _ mw_23) hK (sh_in adC_map hAC) hI 6 28 (lo := 0) (hi := 255) kC_6 kC_28 (fun _ h => h) (fun _ h => h) (by omega) (by omega) (by omega) (by omega) (by omega) (Nat.le_of_ble_eq_true rfl) (Nat.le_of_ble_eq_true rfl) pC_28 d_Me_copyFrom_13 (fun H locs hI => ?_)
  subst hZ
  exact tz_ret (W.vret hx hb hr (fun t ht hW => ⟨⟨fun v9 hv9 => by cases hv9; exact (⟨rfl, hok, by rw [ht]; exact hI.1⟩), fun x9 hx9 => (by cases hx9)⟩, hI.2.F ht⟩) hI.2.2.2 d_Me_copyFrom_16)
abbrev q_Ro_copyFrom_3 (dC : Nat → ClassId) (dI : Nat → Nat → Nat) (cI cJ : ClassId) (a : Nat → Nat) (he dp co li op wd tl lc fo : Int) (sf lf nf : Nat → Int32) : Outcome → State → Prop := fun o t => (∀ v, o = .returned v → ((∃ (he_ dp_ : Int) (nf_ : Nat → Int32), v = none ∧ okC he_ dp_ co li op wd tl lc fo sf lf nf_ ∧ sh_I (dC, dI) vcl cI cJ (gsC a he_ dp_ co li op wd tl lc fo sf lf nf_) t.heap))) ∧ (∀ x, o = .threw x → (False))
def rm_Ro_copyFrom_3 : Room := { frames := 1, cells := 0, slots := 0, locals := 60 }
set_option maxHeartbeats 4000000 in
set_option maxRecDepth 100000 in
theorem c_Ro_copyFrom_3 (l : Launch) (hfl : l.flags = pinnedFlags ++ [noTraceFlag]) (dC : Nat → ClassId) (dI : Nat → Nat → Nat) (cI cJ : ClassId) (a : Nat → Nat) (sz : Nat) (he dp co li op wd tl lc fo : Int) (sf lf nf : Nat → Int32) (hok : okC he dp co li op wd tl lc fo sf lf nf) : tz_Met l ⟨"StoryMachine$Routines", "copyFrom", "(LStoryMachine$Routines;)V"⟩ tw_tbl rm_Ro_copyFrom_3 (tzP (dC, dI) vcl cI cJ (gsC a he dp co li op wd tl lc fo sf lf nf) a (adC a) [.ref (a 3), .ref (a 27)] sz) (tq_Q (q_Ro_copyFrom_3 dC dI cI cJ a he dp co li op wd tl lc fo sf lf nf) (ga (adC a) sz)) 0 0 0 0 (ga (adC a) sz) := by
  refine tz_ofW (cc := prog_9_method_15_code) (maxL := 2) (ret := none) (by decide) (tx_isM mw_721) ?_
  intro p e s m args below meth c s₁ B hml hv
  obtain ⟨rfl, hsz, hI0, hK, hst0⟩ := hv
  have hx := B.exec
  have hb := B.bytes
  have hr := B.returns
  have hts := atoms_spec (ws := tw_tbl) B.pre
  have hown : s.vm.findClass "StoryMachine$Routines" = some m.cls := findClass_of_methodNamed B.named
  have hlocks := B.notSynchronized
  subst hsz
  have hst := fun (H : Heap) (locs : List Loc) (hS : va_S (ga (adC a) s.heap.size) s.heap H locs) (U : State) (hU : U.heap = H) (hW : s.WarmedH U.vm) => zS_all adC_map hI0 hst0 hS hU hW
  have hAC : ∀ q ∈ adC a, ga (adC a) s.heap.size q := fun q h => Or.inl h
  have hA0 : ∀ q, s.heap.size ≤ q → ga (adC a) s.heap.size q := fun q h => Or.inr h
  have hI : sI (dC, dI) vcl cI cJ (gsC a he dp co li op wd tl lc fo sf lf nf) (ga (adC a) s.heap.size) s.heap s.heap [] := ⟨hI0, va_S.rf⟩
  clear hI0 hst0
  have hl := lv_entry ([.ref (a 3), .ref (a 27)]) (n := 2) (Nat.le_of_ble_eq_true rfl)
  rw [lg_entry_eq]
  generalize (lg_sl ([.ref (a 3), .ref (a 27)]) ++ List.replicate (2 - (lg_sl ([.ref (a 3), .ref (a 27)])).length) Slot.unset).toArray = ls at hl ⊢
  have hl : lv_has ls 2 [(0, .ref (a 3)), (1, .ref (a 27))] := hl
  generalize hZ : tz_MQ below (tq_Q (q_Ro_copyFrom_3 dC dI cI cJ a he dp co li op wd tl lc fo sf lf nf) (ga (adC a) s.heap.size)) ([.ref (a 3), .ref (a 27)] : List Value).toArray s 0 0 0 0 (ga (adC a) s.heap.size) = Z
  obtain ⟨A, hAe⟩ : ∃ A, A = ga (adC a) s.heap.size := ⟨_, rfl⟩
  rw [← hAe] at hst hAC hA0 hI hZ
  refine sv_start hI (fun H locs hI => ?_)
  obtain ⟨⟨o1, o2⟩, ⟨o3, o4⟩, ⟨o5, o6⟩, ⟨o7, o8⟩, ⟨o9, o10⟩, ⟨o11, o12⟩, ⟨o13, o14⟩, ⟨o15, o16⟩, ⟨o17, o18⟩, o19, -, -⟩ := id hok
  refine lv_aload_n hx hb d_Ro_copyFrom_0 rfl (lv_at hl 0 rfl) ?_
  refine lv_aload_n hx hb d_Ro_copyFrom_1 rfl (lv_at hl 1 rfl) ?_
  refine sv_get (C := "StoryMachine$Routines") (T := T_Ro) (N := 8) hx hb hts in_Ro hown hK hI 27 kC_27 rfl 1 (by decide) (hts _ mw_82) rfl d_Ro_copyFrom_2 (fun z20 hz20a hz20b => ?_)
  refine sv_put (C := "StoryMachine$Routines") (T := T_Ro) (N := 8) (ty := .int) hx hb hts in_Ro t_Ro tk_Ro nm_Ro hown hK (sh_in adC_map hAC) hI 3 kC_3 rfl 1 (by decide) (hts _ mw_82) rfl (by decide +kernel) rfl rfl (Nat.le_of_ble_eq_true rfl) (Int.le_refl _) (Int.le_refl _) pC_3_1 d_Ro_copyFrom_5 (fun H locs hI => ?_)
  refine lv_aload_n hx hb d_Ro_copyFrom_8 rfl (lv_at hl 0 rfl) ?_
  refine lv_aload_n hx hb d_Ro_copyFrom_9 rfl (lv_at hl 1 rfl) ?_
  refine sv_get (C := "StoryMachine$Routines") (T := T_Ro) (N := 8) hx hb hts in_Ro hown hK hI 27 kC_27 rfl 2 (by decide) (hts _ mw_84) rfl d_Ro_copyFrom_10 (fun z21 hz21a hz21b => ?_)
  refine sv_put (C := "StoryMachine$Routines") (T := T_Ro) (N := 8) (ty := .int) hx hb hts in_Ro t_Ro tk_Ro nm_Ro hown hK (sh_in adC_map hAC) hI 3 kC_3 rfl 2 (by decide) (hts _ mw_84) rfl (by decide +kernel) rfl rfl (Nat.le_of_ble_eq_true rfl) (Int.le_refl _) (Int.le_refl _) pC_3_2 d_Ro_copyFrom_13 (fun H locs hI => ?_)
  refine lv_aload_n hx hb d_Ro_copyFrom_16 rfl (lv_at hl 1 rfl) ?_
  refine sv_getr (C := "StoryMachine$Routines") (T := T_Ro) (N := 8) hx hb hts in_Ro hown hK hI 27 kC_27 rfl 0 (by decide) (hts _ mw_80) rfl d_Ro_copyFrom_17 ?_
  refine sn_iconst hx hb d_Ro_copyFrom_20 (by decide) (fun z22 hz22 => ?_)
  refine lv_aload_n hx hb d_Ro_copyFrom_21 rfl (lv_at hl 0 rfl) ?_
  refine sv_getr (C := "StoryMachine$Routines") (T := T_Ro) (N := 8) hx hb hts in_Ro hown hK hI 3 kC_3 rfl 0 (by decide) (hts _ mw_80) rfl d_Ro_copyFrom_22 ?_
  refine sn_iconst hx hb d_Ro_copyFrom_25 (by decide) (fun z23 hz23 => ?_)
  refine lv_aload_n hx hb d_Ro_copyFrom_26 rfl (lv_at hl 0 rfl) ?_
  refine sv_getr (C := "StoryMachine$Routines") (T := T_Ro) (N := 8) hx hb hts in_Ro hown hK hI 3 kC_3 rfl 0 (by decide) (hts _ mw_80) rfl d_Ro_copyFrom_27 ?_
  refine sv_alen hx hb hK hI 9 kC_9 (by decide) d_Ro_copyFrom_30 (fun z24 hz24 => ?_)
  refine sj_copy hx hb (by rw [hml]; exact hl.1.symm) hown (hts _ mw_722) (hts _ mw_717) (hts _ mw_716) (hts _ mw_23) hK (sh_in adC_map hAC) hI 29 9 (lo := 0) (hi := 65535) kC_29 kC_9 (fun _ h => h) (fun _ h => h) (by omega) (by omega) (by omega) (by omega) (by omega) (Nat.le_of_ble_eq_true rfl) (Nat.le_of_ble_eq_true rfl) pC_9 d_Ro_copyFrom_31 (fun H locs hI => ?_)
  refine lv_aload_n hx hb d_Ro_copyFrom_34 rfl (lv_at hl 1 rfl) ?_
  refine sv_getr (C := "StoryMachine$Routines") (T := T_Ro) (N := 8) hx hb hts in_Ro hown hK hI 27 kC_27 rfl 3 (by decide) (hts _ mw_86) rfl d_Ro_copyFrom_35 ?_
  refine sn_iconst hx hb d_Ro_copyFrom_38 (by decide) (fun z25 hz25 => ?_)
  refine lv_aload_n hx hb d_Ro_copyFrom_39 rfl (lv_at hl 0 rfl) ?_
  refine sv_getr (C := "StoryMachine$Routines") (T := T_Ro) (N := 8) hx hb hts in_Ro hown hK hI 3 kC_3 rfl 3 (by decide) (hts _ mw_86) rfl d_Ro_copyFrom_40 ?_
  refine sn_iconst hx hb d_Ro_copyFrom_43 (by decide) (fun z26 hz26 => ?_)
  refine lv_aload_n hx hb d_Ro_copyFrom_44 rfl (lv_at hl 0 rfl) ?_
  refine sv_getr (C := "StoryMachine$Routines") (T := T_Ro) (N := 8) hx hb hts in_Ro hown hK hI 3 kC_3 rfl 3 (by decide) (hts _ mw_86) rfl d_Ro_copyFrom_45 ?_
  refine sv_alen hx hb hK hI 10 kC_10 (by decide) d_Ro_copyFrom_48 (fun z27 hz27 => ?_)
  refine sj_copy hx hb (by rw [hml]; exact hl.1.symm) hown (hts _ mw_722) (hts _ mw_717) (hts _ mw_716) (hts _ mw_23) hK (sh_in adC_map hAC) hI 30 10 (lo := 0) (hi := 48) kC_30 kC_10 (fun _ h => h) (fun _ h => h) (by omega) (by omega) (by omega) (by omega) (by omega) (Nat.le_of_ble_eq_true rfl) (Nat.le_of_ble_eq_true rfl) pC_10 d_Ro_copyFrom_49 (fun H locs hI => ?_)
  refine lv_aload_n hx hb d_Ro_copyFrom_52 rfl (lv_at hl 1 rfl) ?_
  refine sv_getr (C := "StoryMachine$Routines") (T := T_Ro) (N := 8) hx hb hts in_Ro hown hK hI 27 kC_27 rfl 4 (by decide) (hts _ mw_87) rfl d_Ro_copyFrom_53 ?_
  refine sn_iconst hx hb d_Ro_copyFrom_56 (by decide) (fun z28 hz28 => ?_)
  refine lv_aload_n hx hb d_Ro_copyFrom_57 rfl (lv_at hl 0 rfl) ?_
  refine sv_getr (C := "StoryMachine$Routines") (T := T_Ro) (N := 8) hx hb hts in_Ro hown hK hI 3 kC_3 rfl 4 (by decide) (hts _ mw_87) rfl d_Ro_copyFrom_58 ?_
  refine sn_iconst hx hb d_Ro_copyFrom_61 (by decide) (fun z29 hz29 => ?_)
  refine lv_aload_n hx hb d_Ro_copyFrom_62 rfl (lv_at hl 0 rfl) ?_
  refine sv_getr (C := "StoryMachine$Routines") (T := T_Ro) (N := 8) hx hb hts in_Ro hown hK hI 3 kC_3 rfl 4 (by decide) (hts _ mw_87) rfl d_Ro_copyFrom_63 ?_
  refine sv_alen hx hb hK hI 11 kC_11 (by decide) d_Ro_copyFrom_66 (fun z30 hz30 => ?_)
  refine sj_copy hx hb (by rw [hml]; exact hl.1.symm) hown (hts _ mw_722) (hts _ mw_717) (hts _ mw_716) (hts _ mw_23) hK (sh_in adC_map hAC) hI 31 11 (lo := (-2147483648)) (hi := 2147483647) kC_31 kC_11 (fun _ h => h) (fun _ h => h) (by omega) (by omega) (by omega) (by omega) (by omega) (Nat.le_of_ble_eq_true rfl) (Nat.le_of_ble_eq_true rfl) pC_11 d_Ro_copyFrom_67 (fun H locs hI => ?_)
  refine lv_aload_n hx hb d_Ro_copyFrom_70 rfl (lv_at hl 1 rfl) ?_
  refine sv_getr (C := "StoryMachine$Routines") (T := T_Ro) (N := 8) hx hb hts in_Ro hown hK hI 27 kC_27 rfl 5 (by decide) (hts _ mw_88) rfl d_Ro_copyFrom_71 ?_
  refine sn_iconst hx hb d_Ro_copyFrom_74 (by decide) (fun z31 hz31 => ?_)
  refine lv_aload_n hx hb d_Ro_copyFrom_75 rfl (lv_at hl 0 rfl) ?_
  refine sv_getr (C := "StoryMachine$Routines") (T := T_Ro) (N := 8) hx hb hts in_Ro hown hK hI 3 kC_3 rfl 5 (by decide) (hts _ mw_88) rfl d_Ro_copyFrom_76 ?_
  refine sn_iconst hx hb d_Ro_copyFrom_79 (by decide) (fun z32 hz32 => ?_)
  refine lv_aload_n hx hb d_Ro_copyFrom_80 rfl (lv_at hl 0 rfl) ?_
  refine sv_getr (C := "StoryMachine$Routines") (T := T_Ro) (N := 8) hx hb hts in_Ro hown hK hI 3 kC_3 rfl 5 (by decide) (hts _ mw_88) rfl d_Ro_copyFrom_81 ?_
  refine sv_alen hx hb hK hI 12 kC_12 (by decide) d_Ro_copyFrom_84 (fun z33 hz33 => ?_)
  refine sj_copy hx hb (by rw [hml]; exact hl.1.symm) hown (hts _ mw_722) (hts _ mw_717) (hts _ mw_716) (hts _ mw_23) hK (sh_in adC_map hAC) hI 32 12 (lo := (-2147483648)) (hi := 2147483647) kC_32 kC_12 (fun _ h => h) (fun _ h => h) (by omega) (by omega) (by omega) (by omega) (by omega) (Nat.le_of_ble_eq_true rfl) (Nat.le_of_ble_eq_true rfl) pC_12 d_Ro_copyFrom_85 (fun H locs hI => ?_)
  refine lv_aload_n hx hb d_Ro_copyFrom_88 rfl (lv_at hl 1 rfl) ?_
  refine sv_getr (C := "StoryMachine$Routines") (T := T_Ro) (N := 8) hx hb hts in_Ro hown hK hI 27 kC_27 rfl 6 (by decide) (hts _ mw_89) rfl d_Ro_copyFrom_89 ?_
  refine sn_iconst hx hb d_Ro_copyFrom_92 (by decide) (fun z34 hz34 => ?_)
  refine lv_aload_n hx hb d_Ro_copyFrom_93 rfl (lv_at hl 0 rfl) ?_
  refine sv_getr (C := "StoryMachine$Routines") (T := T_Ro) (N := 8) hx hb hts in_Ro hown hK hI 3 kC_3 rfl 6 (by decide) (hts _ mw_89) rfl d_Ro_copyFrom_94 ?_
  refine sn_iconst hx hb d_Ro_copyFrom_97 (by decide) (fun z35 hz35 => ?_)
  refine lv_aload_n hx hb d_Ro_copyFrom_98 rfl (lv_at hl 0 rfl) ?_
  refine sv_getr (C := "StoryMachine$Routines") (T := T_Ro) (N := 8) hx hb hts in_Ro hown hK hI 3 kC_3 rfl 6 (by decide) (hts _ mw_89) rfl d_Ro_copyFrom_99 ?_
  refine sv_alen hx hb hK hI 13 kC_13 (by decide) d_Ro_copyFrom_102 (fun z36 hz36 => ?_)
  refine sj_copyx hx hb (by rw [hml]; exact hl.1.symm) hown (hts _ mw_722) (hts _ mw_717) (hts _ mw_716) (hts _ mw_23) hK (sh_in adC_map hAC) hI 33 13 (lo := 0) (hi := 15) kC_33 kC_13 (fun _ h => h) (fun _ h => by rw [h]; exact hok.2.2.2.2.2.2.2.2.2.2.2) (by omega) (by omega) (by omega) (by omega) (by omega) (Nat.le_of_ble_eq_true rfl) (Nat.le_of_ble_eq_true rfl) d_Ro_copyFrom_103 (fun f37 rf37 H locs hI => ?_)
  rw [pC_13] at hI
  refine lv_aload_n hx hb d_Ro_copyFrom_106 rfl (lv_at hl 1 rfl) ?_
  refine sv_getr (C := "StoryMachine$Routines") (T := T_Ro) (N := 8) hx hb hts in_Ro hown hK hI 27 kC_27 rfl 7 (by decide) (hts _ mw_90) rfl d_Ro_copyFrom_107 ?_
  refine sn_iconst hx hb d_Ro_copyFrom_110 (by decide) (fun z38 hz38 => ?_)
  refine lv_aload_n hx hb d_Ro_copyFrom_111 rfl (lv_at hl 0 rfl) ?_
  refine sv_getr (C := "StoryMachine$Routines") (T := T_Ro) (N := 8) hx hb hts in_Ro hown hK hI 3 kC_3 rfl 7 (by decide) (hts _ mw_90) rfl d_Ro_copyFrom_112 ?_
  refine sn_iconst hx hb d_Ro_copyFrom_115 (by decide) (fun z39 hz39 => ?_)
  refine lv_aload_n hx hb d_Ro_copyFrom_116 rfl (lv_at hl 0 rfl) ?_
  refine sv_getr (C := "StoryMachine$Routines") (T := T_Ro) (N := 8) hx hb hts in_Ro hown hK hI 3 kC_3 rfl 7 (by decide) (hts _ mw_90) rfl d_Ro_copyFrom_117 ?_
  refine sv_alen hx hb hK hI 14 kC_14 (by decide) d_Ro_copyFrom_120 (fun z40 hz40 => ?_)
  refine sj_copy hx hb (by rw [hml]; exact hl.1.symm) hown (hts _ mw_722) (hts _ mw_717) (hts _ mw_716) (hts _ mw_23) hK (sh_in adC_map hAC) hI 34 14 (lo := 0) (hi := 65535) kC_34 kC_14 (fun _ h => h) (fun _ h => h) (by omega) (by omega) (by omega) (by omega) (by omega) (Nat.le_of_ble_eq_true rfl) (Nat.le_of_ble_eq_true rfl) pC_14 d_Ro_copyFrom_121 (fun H locs hI => ?_)
  have ho41 : okC z20.toInt z21.toInt co li op wd tl lc fo sf lf f37 := ⟨⟨by omega, by omega⟩, ⟨by omega, by omega⟩, hok.2.2.1, hok.2.2.2.1, hok.2.2.2.2.1, hok.2.2.2.2.2.1, hok.2.2.2.2.2.2.1, hok.2.2.2.2.2.2.2.1, hok.2.2.2.2.2.2.2.2.1, hok.2.2.2.2.2.2.2.2.2.1, hok.2.2.2.2.2.2.2.2.2.2.1, rf37⟩
  subst hZ
  exact tz_ret (W.vret hx hb hr (fun t ht hW => ⟨⟨fun v9 hv9 => by cases hv9; exact (⟨z20.toInt, z21.toInt, f37, rfl, ho41, by rw [ht]; exact hI.1⟩), fun x9 hx9 => (by cases hx9)⟩, hI.2.F ht⟩) hI.2.2.2 d_Ro_copyFrom_124)
