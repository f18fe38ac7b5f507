abbrev q_In_formOf (dC : Nat → ClassId) (dI : Nat → Nat → Nat) (cI cJ : ClassId) (a : Nat → Nat) (he dp co li op wd tl lc fo : Int) (sf lf nf : Nat → Int32) : Outcome → State → Prop := fun o t => (∀ v, o = .returned v → ((∃ (z : Int32), v = some (.int z) ∧ okC he dp co li op wd tl lc fo sf lf nf ∧ (0 ≤ z.toInt) ∧ (z.toInt ≤ 7) ∧ (z.toInt = 0 ∨ li ≤ 2 ∨ op ≤ 9) ∧ sh_I (dC, dI) vcl cI cJ (gsC a he dp co li op wd tl lc fo sf lf nf) t.heap))) ∧ (∀ x, o = .threw x → (False))
def rm_In_formOf : Room := { frames := 0, cells := 0, slots := 0, locals := 0 }
set_option maxHeartbeats 4000000 in
set_option maxRecDepth 100000 in
theorem c_In_formOf (l : Launch) (hfl : l.flags = pinnedFlags ++ [noTraceFlag]) (dC : Nat → ClassId) (dI : Nat → Nat → Nat) (cI cJ : ClassId) (a : Nat → Nat) (sz : Nat) (he dp co li op wd tl lc fo : Int) (sf lf nf : Nat → Int32) (hok : okC he dp co li op wd tl lc fo sf lf nf) : tz_Met l ⟨"StoryMachine$Instruction", "formOf", "()I"⟩ tw_tbl rm_In_formOf (tzP (dC, dI) vcl cI cJ (gsC a he dp co li op wd tl lc fo sf lf nf) a (adC a) [.ref (a 19)] sz) (tq_Q (q_In_formOf dC dI cI cJ a he dp co li op wd tl lc fo sf lf nf) (ga (adC a) sz)) 0 0 0 0 (ga (adC a) sz) := by
  refine tz_ofW (cc := prog_5_method_8_code) (maxL := 1) (ret := (some .int)) (by decide) (tx_isM mw_567) ?_
  intro p e s m args below meth c s₁ B hml hv
  obtain ⟨rfl, hsz, hI0, hK, hst0⟩ := hv
  have hx := B.exec
  have hb := B.bytes
  have hr := B.returns
  have hts := atoms_spec (ws := tw_tbl) B.pre
  have hown : s.vm.findClass "StoryMachine$Instruction" = some m.cls := findClass_of_methodNamed B.named
  have hlocks := B.notSynchronized
  subst hsz
  have hst := fun (H : Heap) (locs : List Loc) (hS : va_S (ga (adC a) s.heap.size) s.heap H locs) (U : State) (hU : U.heap = H) (hW : s.WarmedH U.vm) => zS_all adC_map hI0 hst0 hS hU hW
  have hAC : ∀ q ∈ adC a, ga (adC a) s.heap.size q := fun q h => Or.inl h
  have hA0 : ∀ q, s.heap.size ≤ q → ga (adC a) s.heap.size q := fun q h => Or.inr h
  have hI : sI (dC, dI) vcl cI cJ (gsC a he dp co li op wd tl lc fo sf lf nf) (ga (adC a) s.heap.size) s.heap s.heap [] := ⟨hI0, va_S.rf⟩
  clear hI0 hst0
  have hl := lv_entry ([.ref (a 19)]) (n := 1) (Nat.le_of_ble_eq_true rfl)
  rw [lg_entry_eq]
  generalize (lg_sl ([.ref (a 19)]) ++ List.replicate (1 - (lg_sl ([.ref (a 19)])).length) Slot.unset).toArray = ls at hl ⊢
  have hl : lv_has ls 1 [(0, .ref (a 19))] := hl
  generalize hZ : tz_MQ below (tq_Q (q_In_formOf dC dI cI cJ a he dp co li op wd tl lc fo sf lf nf) (ga (adC a) s.heap.size)) ([.ref (a 19)] : List Value).toArray s 0 0 0 0 (ga (adC a) s.heap.size) = Z
  obtain ⟨A, hAe⟩ : ∃ A, A = ga (adC a) s.heap.size := ⟨_, rfl⟩
  rw [← hAe] at hst hAC hA0 hI hZ
  refine sv_start hI (fun H locs hI => ?_)
  obtain ⟨⟨o1, o2⟩, ⟨o3, o4⟩, ⟨o5, o6⟩, ⟨o7, o8⟩, ⟨o9, o10⟩, ⟨o11, o12⟩, ⟨o13, o14⟩, ⟨o15, o16⟩, ⟨o17, o18⟩, o19, -, -⟩ := id hok
  refine lv_aload_n hx hb d_In_formOf_0 rfl (lv_at hl 0 rfl) ?_
  refine sv_gete (C := "StoryMachine$Instruction") (T := T_In) (N := 11) hx hb hts in_In hown hK hI 19 kC_19 rfl 4 (by decide) (hts _ mw_226) rfl d_In_formOf_1 (fun z20 hz20 => ?_)
  refine sn_if_ne (tgt := 16) hx hb d_In_formOf_4 (by decide) (fun b21 => ?_) (fun b21 => ?_)
  · refine lv_aload_n hx hb d_In_formOf_16 rfl (lv_at hl 0 rfl) ?_
    refine sv_gete (C := "StoryMachine$Instruction") (T := T_In) (N := 11) hx hb hts in_In hown hK hI 19 kC_19 rfl 4 (by decide) (hts _ mw_226) rfl d_In_formOf_17 (fun z22 hz22 => ?_)
    refine sn_iconst hx hb d_In_formOf_20 (by decide) (fun z23 hz23 => ?_)
    refine sn_icmp_ne (tgt := 33) hx hb d_In_formOf_21 (by decide) (fun b24 => ?_) (fun b24 => ?_)
    · refine lv_aload_n hx hb d_In_formOf_33 rfl (lv_at hl 0 rfl) ?_
      refine sv_gete (C := "StoryMachine$Instruction") (T := T_In) (N := 11) hx hb hts in_In hown hK hI 19 kC_19 rfl 4 (by decide) (hts _ mw_226) rfl d_In_formOf_34 (fun z25 hz25 => ?_)
      refine sn_iconst hx hb d_In_formOf_37 (by decide) (fun z26 hz26 => ?_)
      refine sn_icmp_ne (tgt := 50) hx hb d_In_formOf_38 (by decide) (fun b27 => ?_) (fun b27 => ?_)
      · refine lv_aload_n hx hb d_In_formOf_50 rfl (lv_at hl 0 rfl) ?_
        refine sv_gete (C := "StoryMachine$Instruction") (T := T_In) (N := 11) hx hb hts in_In hown hK hI 19 kC_19 rfl 5 (by decide) (hts _ mw_228) rfl d_In_formOf_51 (fun z28 hz28 => ?_)
        refine sb_gets hx hb (hst _ [] va_S.rf s rfl (State.WarmedH.refl s)) hAe hI.2 3 (by decide) hown (hts _ mw_574) d_In_formOf_54 ?_
        refine sb_alen hx hb (hst _ [] va_S.rf s rfl (State.WarmedH.refl s)) hAe hI.2 3 (by decide) (N := 10) rfl (by decide) d_In_formOf_57 (fun z29 hz29 => ?_)
        refine sn_icmp_ge (tgt := 72) hx hb d_In_formOf_58 (by decide) (fun b30 => ?_) (fun b30 => ?_)
        · refine sn_iconst hx hb d_In_formOf_72 (by decide) (fun z31 hz31 => ?_)
          subst hZ
          exact tz_ret (W.iret (v := z31) hx hb hr (fun t ht hW => ⟨⟨fun v9 hv9 => by cases hv9; exact (⟨z31, rfl, hok, by omega, by omega, by omega, by rw [ht]; exact hI.1⟩), fun x9 hx9 => (by cases hx9)⟩, hI.2.F ht⟩) hI.2.2.2 d_In_formOf_73)
        · refine sb_gets hx hb (hst _ [] va_S.rf s rfl (State.WarmedH.refl s)) hAe hI.2 3 (by decide) hown (hts _ mw_574) d_In_formOf_61 ?_
          refine lv_aload_n hx hb d_In_formOf_64 rfl (lv_at hl 0 rfl) ?_
          refine sv_gete (C := "StoryMachine$Instruction") (T := T_In) (N := 11) hx hb hts in_In hown hK hI 19 kC_19 rfl 5 (by decide) (hts _ mw_228) rfl d_In_formOf_65 (fun z32 hz32 => ?_)
          refine sb_iald hx hb (hst _ [] va_S.rf s rfl (State.WarmedH.refl s)) hAe hI.2 3 (by decide) (N := 10) rfl (by omega) (by omega) d_In_formOf_68 (fun z33 hz33a hz33b => ?_)
          refine lv_goto (tgt := 73) hx hb d_In_formOf_69 (by decide) ?_
          subst hZ
          exact tz_ret (W.iret (v := z33) hx hb hr (fun t ht hW => ⟨⟨fun v9 hv9 => by cases hv9; exact (⟨z33, rfl, hok, by omega, by omega, by omega, by rw [ht]; exact hI.1⟩), fun x9 hx9 => (by cases hx9)⟩, hI.2.F ht⟩) hI.2.2.2 d_In_formOf_73)
      · refine sb_gets hx hb (hst _ [] va_S.rf s rfl (State.WarmedH.refl s)) hAe hI.2 2 (by decide) hown (hts _ mw_572) d_In_formOf_41 ?_
        refine lv_aload_n hx hb d_In_formOf_44 rfl (lv_at hl 0 rfl) ?_
        refine sv_gete (C := "StoryMachine$Instruction") (T := T_In) (N := 11) hx hb hts in_In hown hK hI 19 kC_19 rfl 5 (by decide) (hts _ mw_228) rfl d_In_formOf_45 (fun z34 hz34 => ?_)
        refine sb_iald hx hb (hst _ [] va_S.rf s rfl (State.WarmedH.refl s)) hAe hI.2 2 (by decide) (N := 32) rfl (by omega) (by omega) d_In_formOf_48 (fun z35 hz35a hz35b => ?_)
        subst hZ
        exact tz_ret (W.iret (v := z35) hx hb hr (fun t ht hW => ⟨⟨fun v9 hv9 => by cases hv9; exact (⟨z35, rfl, hok, by omega, by omega, by omega, by rw [ht]; exact hI.1⟩), fun x9 hx9 => (by cases hx9)⟩, hI.2.F ht⟩) hI.2.2.2 d_In_formOf_49)
    · refine sb_gets hx hb (hst _ [] va_S.rf s rfl (State.WarmedH.refl s)) hAe hI.2 1 (by decide) hown (hts _ mw_570) d_In_formOf_24 ?_
      refine lv_aload_n hx hb d_In_formOf_27 rfl (lv_at hl 0 rfl) ?_
      refine sv_gete (C := "StoryMachine$Instruction") (T := T_In) (N := 11) hx hb hts in_In hown hK hI 19 kC_19 rfl 5 (by decide) (hts _ mw_228) rfl d_In_formOf_28 (fun z36 hz36 => ?_)
      refine sb_iald hx hb (hst _ [] va_S.rf s rfl (State.WarmedH.refl s)) hAe hI.2 1 (by decide) (N := 16) rfl (by omega) (by omega) d_In_formOf_31 (fun z37 hz37a hz37b => ?_)
      subst hZ
      exact tz_ret (W.iret (v := z37) hx hb hr (fun t ht hW => ⟨⟨fun v9 hv9 => by cases hv9; exact (⟨z37, rfl, hok, by omega, by omega, by omega, by rw [ht]; exact hI.1⟩), fun x9 hx9 => (by cases hx9)⟩, hI.2.F ht⟩) hI.2.2.2 d_In_formOf_32)
  · refine sb_gets hx hb (hst _ [] va_S.rf s rfl (State.WarmedH.refl s)) hAe hI.2 0 (by decide) hown (hts _ mw_568) d_In_formOf_7 ?_
    refine lv_aload_n hx hb d_In_formOf_10 rfl (lv_at hl 0 rfl) ?_
    refine sv_gete (C := "StoryMachine$Instruction") (T := T_In) (N := 11) hx hb hts in_In hown hK hI 19 kC_19 rfl 5 (by decide) (hts _ mw_228) rfl d_In_formOf_11 (fun z38 hz38 => ?_)
    refine sb_iald hx hb (hst _ [] va_S.rf s rfl (State.WarmedH.refl s)) hAe hI.2 0 (by decide) (N := 16) rfl (by omega) (by omega) d_In_formOf_14 (fun z39 hz39a hz39b => ?_)
    subst hZ
    exact tz_ret (W.iret (v := z39) hx hb hr (fun t ht hW => ⟨⟨fun v9 hv9 => by cases hv9; exact (⟨z39, rfl, hok, by omega, by omega, by omega, by rw [ht]; exact hI.1⟩), fun x9 hx9 => (by cases hx9)⟩, hI.2.F ht⟩) hI.2.2.2 d_In_formOf_15)
abbrev q_In_needed (dC : Nat → ClassId) (dI : Nat → Nat → Nat) (cI cJ : ClassId) (a : Nat → Nat) (he dp co li op wd tl lc fo : Int) (sf lf nf : Nat → Int32) : Outcome → State → Prop := fun o t => (∀ v, o = .returned v → ((∃ (z : Int32), v = some (.int z) ∧ okC he dp co li op wd tl lc fo sf lf nf ∧ (0 ≤ z.toInt) ∧ (z.toInt ≤ 7) ∧ sh_I (dC, dI) vcl cI cJ (gsC a he dp co li op wd tl lc fo sf lf nf) t.heap))) ∧ (∀ x, o = .threw x → (False))
def rm_In_needed : Room := { frames := 0, cells := 0, slots := 0, locals := 0 }
set_option maxHeartbeats 4000000 in
set_option maxRecDepth 100000 in
theorem c_In_needed (l : Launch) (hfl : l.flags = pinnedFlags ++ [noTraceFlag]) (dC : Nat → ClassId) (dI : Nat → Nat → Nat) (cI cJ : ClassId) (a : Nat → Nat) (sz : Nat) (he dp co li op wd tl lc fo : Int) (sf lf nf : Nat → Int32) (hok : okC he dp co li op wd tl lc fo sf lf nf) (hp0 : li ≤ 2 ∨ op ≤ 9) : tz_Met l ⟨"StoryMachine$Instruction", "needed", "()I"⟩ tw_tbl rm_In_needed (tzP (dC, dI) vcl cI cJ (gsC a he dp co li op wd tl lc fo sf lf nf) a (adC a) [.ref (a 19)] sz) (tq_Q (q_In_needed dC dI cI cJ a he dp co li op wd tl lc fo sf lf nf) (ga (adC a) sz)) 0 0 0 0 (ga (adC a) sz) := by
  refine tz_ofW (cc := prog_5_method_9_code) (maxL := 1) (ret := (some .int)) (by decide) (tx_isM mw_579) ?_
  intro p e s m args below meth c s₁ B hml hv
  obtain ⟨rfl, hsz, hI0, hK, hst0⟩ := hv
  have hx := B.exec
  have hb := B.bytes
  have hr := B.returns
  have hts := atoms_spec (ws := tw_tbl) B.pre
  have hown : s.vm.findClass "StoryMachine$Instruction" = some m.cls := findClass_of_methodNamed B.named
  have hlocks := B.notSynchronized
  subst hsz
  have hst := fun (H : Heap) (locs : List Loc) (hS : va_S (ga (adC a) s.heap.size) s.heap H locs) (U : State) (hU : U.heap = H) (hW : s.WarmedH U.vm) => zS_all adC_map hI0 hst0 hS hU hW
  have hAC : ∀ q ∈ adC a, ga (adC a) s.heap.size q := fun q h => Or.inl h
  have hA0 : ∀ q, s.heap.size ≤ q → ga (adC a) s.heap.size q := fun q h => Or.inr h
  have hI : sI (dC, dI) vcl cI cJ (gsC a he dp co li op wd tl lc fo sf lf nf) (ga (adC a) s.heap.size) s.heap s.heap [] := ⟨hI0, va_S.rf⟩
  clear hI0 hst0
  have hl := lv_entry ([.ref (a 19)]) (n := 1) (Nat.le_of_ble_eq_true rfl)
  rw [lg_entry_eq]
  generalize (lg_sl ([.ref (a 19)]) ++ List.replicate (1 - (lg_sl ([.ref (a 19)])).length) Slot.unset).toArray = ls at hl ⊢
  have hl : lv_has ls 1 [(0, .ref (a 19))] := hl
  generalize hZ : tz_MQ below (tq_Q (q_In_needed dC dI cI cJ a he dp co li op wd tl lc fo sf lf nf) (ga (adC a) s.heap.size)) ([.ref (a 19)] : List Value).toArray s 0 0 0 0 (ga (adC a) s.heap.size) = Z
  obtain ⟨A, hAe⟩ : ∃ A, A = ga (adC a) s.heap.size := ⟨_, rfl⟩
  rw [← hAe] at hst hAC hA0 hI hZ
  refine sv_start hI (fun H locs hI => ?_)
  obtain ⟨⟨o1, o2⟩, ⟨o3, o4⟩, ⟨o5, o6⟩, ⟨o7, o8⟩, ⟨o9, o10⟩, ⟨o11, o12⟩, ⟨o13, o14⟩, ⟨o15, o16⟩, ⟨o17, o18⟩, o19, -, -⟩ := id hok
  refine lv_aload_n hx hb d_In_needed_0 rfl (lv_at hl 0 rfl) ?_
  refine sv_gete (C := "StoryMachine$Instruction") (T := T_In) (N := 11) hx hb hts in_In hown hK hI 19 kC_19 rfl 4 (by decide) (hts _ mw_226) rfl d_In_needed_1 (fun z20 hz20 => ?_)
  refine sn_iconst hx hb d_In_needed_4 (by decide) (fun z21 hz21 => ?_)
  refine sn_icmp_ne (tgt := 19) hx hb d_In_needed_5 (by decide) (fun b22 => ?_) (fun b22 => ?_)
  · refine lv_aload_n hx hb d_In_needed_19 rfl (lv_at hl 0 rfl) ?_
    refine sv_gete (C := "StoryMachine$Instruction") (T := T_In) (N := 11) hx hb hts in_In hown hK hI 19 kC_19 rfl 4 (by decide) (hts _ mw_226) rfl d_In_needed_20 (fun z23 hz23 => ?_)
    subst hZ
    exact tz_ret (W.iret (v := z23) hx hb hr (fun t ht hW => ⟨⟨fun v9 hv9 => by cases hv9; exact (⟨z23, rfl, hok, by omega, by omega, by rw [ht]; exact hI.1⟩), fun x9 hx9 => (by cases hx9)⟩, hI.2.F ht⟩) hI.2.2.2 d_In_needed_23)
  · refine sb_gets hx hb (hst _ [] va_S.rf s rfl (State.WarmedH.refl s)) hAe hI.2 4 (by decide) hown (hts _ mw_580) d_In_needed_8 ?_
    refine lv_aload_n hx hb d_In_needed_11 rfl (lv_at hl 0 rfl) ?_
    refine sv_gete (C := "StoryMachine$Instruction") (T := T_In) (N := 11) hx hb hts in_In hown hK hI 19 kC_19 rfl 5 (by decide) (hts _ mw_228) rfl d_In_needed_12 (fun z24 hz24 => ?_)
    refine sb_iald hx hb (hst _ [] va_S.rf s rfl (State.WarmedH.refl s)) hAe hI.2 4 (by decide) (N := 10) rfl (by omega) (by omega) d_In_needed_15 (fun z25 hz25a hz25b => ?_)
    refine lv_goto (tgt := 23) hx hb d_In_needed_16 (by decide) ?_
    subst hZ
    exact tz_ret (W.iret (v := z25) hx hb hr (fun t ht hW => ⟨⟨fun v9 hv9 => by cases hv9; exact (⟨z25, rfl, hok, by omega, by omega, by rw [ht]; exact hI.1⟩), fun x9 hx9 => (by cases hx9)⟩, hI.2.F ht⟩) hI.2.2.2 d_In_needed_23)
abbrev q_In_gives (dC : Nat → ClassId) (dI : Nat → Nat → Nat) (cI cJ : ClassId) (a : Nat → Nat) (he dp co li op wd tl lc fo : Int) (sf lf nf : Nat → Int32) : Outcome → State → Prop := fun o t => (∀ v, o = .returned v → ((∃ (z : Int32), v = some (.int z) ∧ okC he dp co li op wd tl lc fo sf lf nf ∧ (0 ≤ z.toInt) ∧ (z.toInt ≤ 0) ∧ sh_I (dC, dI) vcl cI cJ (gsC a he dp co li op wd tl lc fo sf lf nf) t.heap) ∨ (∃ (z : Int32), v = some (.int z) ∧ okC he dp co li op wd tl lc fo sf lf nf ∧ (1 ≤ z.toInt) ∧ (z.toInt ≤ 1) ∧ sh_I (dC, dI) vcl cI cJ (gsC a he dp co li op wd tl lc fo sf lf nf) t.heap))) ∧ (∀ x, o = .threw x → (False))
def rm_In_gives : Room := { frames := 0, cells := 0, slots := 0, locals := 0 }
set_option maxHeartbeats 4000000 in
set_option maxRecDepth 100000 in
theorem c_In_gives (l : Launch) (hfl : l.flags = pinnedFlags ++ [noTraceFlag]) (dC : Nat → ClassId) (dI : Nat → Nat → Nat) (cI cJ : ClassId) (a : Nat → Nat) (sz : Nat) (he dp co li op wd tl lc fo : Int) (sf lf nf : Nat → Int32) (hok : okC he dp co li op wd tl lc fo sf lf nf) : tz_Met l ⟨"StoryMachine$Instruction", "gives", "()Z"⟩ tw_tbl rm_In_gives (tzP (dC, dI) vcl cI cJ (gsC a he dp co li op wd tl lc fo sf lf nf) a (adC a) [.ref (a 19)] sz) (tq_Q (q_In_gives dC dI cI cJ a he dp co li op wd tl lc fo sf lf nf) (ga (adC a) sz)) 0 0 0 0 (ga (adC a) sz) := by
  refine tz_ofW (cc := prog_5_method_2_code) (maxL := 1) (ret := (some .boolean)) (by decide) (tx_isM mw_587) ?_
  intro p e s m args below meth c s₁ B hml hv
  obtain ⟨rfl, hsz, hI0, hK, hst0⟩ := hv
  have hx := B.exec
  have hb := B.bytes
  have hr := B.returns
  have hts := atoms_spec (ws := tw_tbl) B.pre
  have hown : s.vm.findClass "StoryMachine$Instruction" = some m.cls := findClass_of_methodNamed B.named
  have hlocks := B.notSynchronized
  subst hsz
  have hst := fun (H : Heap) (locs : List Loc) (hS : va_S (ga (adC a) s.heap.size) s.heap H locs) (U : State) (hU : U.heap = H) (hW : s.WarmedH U.vm) => zS_all adC_map hI0 hst0 hS hU hW
  have hAC : ∀ q ∈ adC a, ga (adC a) s.heap.size q := fun q h => Or.inl h
  have hA0 : ∀ q, s.heap.size ≤ q → ga (adC a) s.heap.size q := fun q h => Or.inr h
  have hI : sI (dC, dI) vcl cI cJ (gsC a he dp co li op wd tl lc fo sf lf nf) (ga (adC a) s.heap.size) s.heap s.heap [] := ⟨hI0, va_S.rf⟩
  clear hI0 hst0
  have hl := lv_entry ([.ref (a 19)]) (n := 1) (Nat.le_of_ble_eq_true rfl)
  rw [lg_entry_eq]
  generalize (lg_sl ([.ref (a 19)]) ++ List.replicate (1 - (lg_sl ([.ref (a 19)])).length) Slot.unset).toArray = ls at hl ⊢
  have hl : lv_has ls 1 [(0, .ref (a 19))] := hl
  generalize hZ : tz_MQ below (tq_Q (q_In_gives dC dI cI cJ a he dp co li op wd tl lc fo sf lf nf) (ga (adC a) s.heap.size)) ([.ref (a 19)] : List Value).toArray s 0 0 0 0 (ga (adC a) s.heap.size) = Z
  obtain ⟨A, hAe⟩ : ∃ A, A = ga (adC a) s.heap.size := ⟨_, rfl⟩
  rw [← hAe] at hst hAC hA0 hI hZ
  refine sv_start hI (fun H locs hI => ?_)
  obtain ⟨⟨o1, o2⟩, ⟨o3, o4⟩, ⟨o5, o6⟩, ⟨o7, o8⟩, ⟨o9, o10⟩, ⟨o11, o12⟩, ⟨o13, o14⟩, ⟨o15, o16⟩, ⟨o17, o18⟩, o19, -, -⟩ := id hok
  refine lv_aload_n hx hb d_In_gives_0 rfl (lv_at hl 0 rfl) ?_
  refine sv_gete (C := "StoryMachine$Instruction") (T := T_In) (N := 11) hx hb hts in_In hown hK hI 19 kC_19 rfl 10 (by decide) (hts _ mw_237) rfl d_In_gives_1 (fun z20 hz20 => ?_)
  refine sn_iconst hx hb d_In_gives_4 (by decide) (fun z21 hz21 => ?_)
  refine sn_iandT hx hb d_In_gives_5 (fun z22 hz22a hz22b => ?_)
  refine sn_if_eq (tgt := 13) hx hb d_In_gives_6 (by decide) (fun b23 => ?_) (fun b23 => ?_)
  · refine sn_iconst hx hb d_In_gives_13 (by decide) (fun z24 hz24 => ?_)
    subst hZ
    exact tz_ret (W.zret (v := z24) hx hb hr (sn_bool (by omega) (by omega)).1 (fun t ht hW => ⟨⟨fun v9 hv9 => by cases hv9; exact (Or.inl ⟨z24, rfl, hok, by omega, by omega, by rw [ht]; exact hI.1⟩), fun x9 hx9 => (by cases hx9)⟩, hI.2.F ht⟩) hI.2.2.2 d_In_gives_14)
  · refine sn_iconst hx hb d_In_gives_9 (by decide) (fun z25 hz25 => ?_)
    refine lv_goto (tgt := 14) hx hb d_In_gives_10 (by decide) ?_
    subst hZ
    exact tz_ret (W.zret (v := z25) hx hb hr (sn_bool (by omega) (by omega)).1 (fun t ht hW => ⟨⟨fun v9 hv9 => by cases hv9; exact (Or.inr (⟨z25, rfl, hok, by omega, by omega, by rw [ht]; exact hI.1⟩)), fun x9 hx9 => (by cases hx9)⟩, hI.2.F ht⟩) hI.2.2.2 d_In_gives_14)
abbrev q_In_branches (dC : Nat → ClassId) (dI : Nat → Nat → Nat) (cI cJ : ClassId) (a : Nat → Nat) (he dp co li op wd tl lc fo : Int) (sf lf nf : Nat → Int32) : Outcome → State → Prop := fun o t => (∀ v, o = .returned v → ((∃ (z : Int32), v = some (.int z) ∧ okC he dp co li op wd tl lc fo sf lf nf ∧ (0 ≤ z.toInt) ∧ (z.toInt ≤ 0) ∧ sh_I (dC, dI) vcl cI cJ (gsC a he dp co li op wd tl lc fo sf lf nf) t.heap) ∨ (∃ (z : Int32), v = some (.int z) ∧ okC he dp co li op wd tl lc fo sf lf nf ∧ (1 ≤ z.toInt) ∧ (z.toInt ≤ 1) ∧ sh_I (dC, dI) vcl cI cJ (gsC a he dp co li op wd tl lc fo sf lf nf) t.heap))) ∧ (∀ x, o = .threw x → (False))
def rm_In_branches : Room := { frames := 0, cells := 0, slots := 0, locals := 0 }
set_option maxHeartbeats 4000000 in
set_option maxRecDepth 100000 in
theorem c_In_branches (l : Launch) (hfl : l.flags = pinnedFlags ++ [noTraceFlag]) (dC : Nat → ClassId) (dI : Nat → Nat → Nat) (cI cJ : ClassId) (a : Nat → Nat) (sz : Nat) (he dp co li op wd tl lc fo : Int) (sf lf nf : Nat → Int32) (hok : okC he dp co li op wd tl lc fo sf lf nf) : tz_Met l ⟨"StoryMachine$Instruction", "branches", "()Z"⟩ tw_tbl rm_In_branches (tzP (dC, dI) vcl cI cJ (gsC a he dp co li op wd tl lc fo sf lf nf) a (adC a) [.ref (a 19)] sz) (tq_Q (q_In_branches dC dI cI cJ a he dp co li op wd tl lc fo sf lf nf) (ga (adC a) sz)) 0 0 0 0 (ga (adC a) sz) := by
  refine tz_ofW (cc := prog_5_method_3_code) (maxL := 1) (ret := (some .boolean)) (by decide) (tx_isM mw_591) ?_
  intro p e s m args below meth c s₁ B hml hv
  obtain ⟨rfl, hsz, hI0, hK, hst0⟩ := hv
  have hx := B.exec
  have hb := B.bytes
  have hr := B.returns
  have hts := atoms_spec (ws := tw_tbl) B.pre
  have hown : s.vm.findClass "StoryMachine$Instruction" = some m.cls := findClass_of_methodNamed B.named
  have hlocks := B.notSynchronized
  subst hsz
  have hst := fun (H : Heap) (locs : List Loc) (hS : va_S (ga (adC a) s.heap.size) s.heap H locs) (U : State) (hU : U.heap = H) (hW : s.WarmedH U.vm) => zS_all adC_map hI0 hst0 hS hU hW
  have hAC : ∀ q ∈ adC a, ga (adC a) s.heap.size q := fun q h => Or.inl h
  have hA0 : ∀ q, s.heap.size ≤ q → ga (adC a) s.heap.size q := fun q h => Or.inr h
  have hI : sI (dC, dI) vcl cI cJ (gsC a he dp co li op wd tl lc fo sf lf nf) (ga (adC a) s.heap.size) s.heap s.heap [] := ⟨hI0, va_S.rf⟩
  clear hI0 hst0
  have hl := lv_entry ([.ref (a 19)]) (n := 1) (Nat.le_of_ble_eq_true rfl)
  rw [lg_entry_eq]
  generalize (lg_sl ([.ref (a 19)]) ++ List.replicate (1 - (lg_sl ([.ref (a 19)])).length) Slot.unset).toArray = ls at hl ⊢
  have hl : lv_has ls 1 [(0, .ref (a 19))] := hl
  generalize hZ : tz_MQ below (tq_Q (q_In_branches dC dI cI cJ a he dp co li op wd tl lc fo sf lf nf) (ga (adC a) s.heap.size)) ([.ref (a 19)] : List Value).toArray s 0 0 0 0 (ga (adC a) s.heap.size) = Z
  obtain ⟨A, hAe⟩ : ∃ A, A = ga (adC a) s.heap.size := ⟨_, rfl⟩
  rw [← hAe] at hst hAC hA0 hI hZ
  refine sv_start hI (fun H locs hI => ?_)
  obtain ⟨⟨o1, o2⟩, ⟨o3, o4⟩, ⟨o5, o6⟩, ⟨o7, o8⟩, ⟨o9, o10⟩, ⟨o11, o12⟩, ⟨o13, o14⟩, ⟨o15, o16⟩, ⟨o17, o18⟩, o19, -, -⟩ := id hok
  refine lv_aload_n hx hb d_In_branches_0 rfl (lv_at hl 0 rfl) ?_
  refine sv_gete (C := "StoryMachine$Instruction") (T := T_In) (N := 11) hx hb hts in_In hown hK hI 19 kC_19 rfl 10 (by decide) (hts _ mw_237) rfl d_In_branches_1 (fun z20 hz20 => ?_)
  refine sn_iconst hx hb d_In_branches_4 (by decide) (fun z21 hz21 => ?_)
  refine sn_iandT hx hb d_In_branches_5 (fun z22 hz22a hz22b => ?_)
  refine sn_if_eq (tgt := 13) hx hb d_In_branches_6 (by decide) (fun b23 => ?_) (fun b23 => ?_)
  · refine sn_iconst hx hb d_In_branches_13 (by decide) (fun z24 hz24 => ?_)
    subst hZ
    exact tz_ret (W.zret (v := z24) hx hb hr (sn_bool (by omega) (by omega)).1 (fun t ht hW => ⟨⟨fun v9 hv9 => by cases hv9; exact (Or.inl ⟨z24, rfl, hok, by omega, by omega, by rw [ht]; exact hI.1⟩), fun x9 hx9 => (by cases hx9)⟩, hI.2.F ht⟩) hI.2.2.2 d_In_branches_14)
  · refine sn_iconst hx hb d_In_branches_9 (by decide) (fun z25 hz25 => ?_)
    refine lv_goto (tgt := 14) hx hb d_In_branches_10 (by decide) ?_
    subst hZ
    exact tz_ret (W.zret (v := z25) hx hb hr (sn_bool (by omega) (by omega)).1 (fun t ht hW => ⟨⟨fun v9 hv9 => by cases hv9; exact (Or.inr (⟨z25, rfl, hok, by omega, by omega, by rw [ht]; exact hI.1⟩)), fun x9 hx9 => (by cases hx9)⟩, hI.2.F ht⟩) hI.2.2.2 d_In_branches_14)
abbrev q_In_readBranch (dC : Nat → ClassId) (dI : Nat → Nat → Nat) (cI cJ : ClassId) (a : Nat → Nat) (he dp co li op wd tl lc fo : Int) (sf lf nf : Nat → Int32) : Outcome → State → Prop := fun o t => (∀ v, o = .returned v → ((v = none ∧ okC he dp co li op wd tl lc fo sf lf nf ∧ sh_I (dC, dI) vcl cI cJ (gsC a he dp co li op wd tl lc fo sf lf nf) t.heap))) ∧ (∀ x, o = .threw x → ((ta_Ex "java/lang/IllegalArgumentException" x t ∧ okC he dp co li op wd tl lc fo sf lf nf ∧ sh_I (dC, dI) vcl cI cJ (gsC a he dp co li op wd tl lc fo sf lf nf) t.heap)))
def rm_In_readBranch : Room := { frames := 9, cells := 1, slots := 6, locals := 172 }
set_option maxHeartbeats 4000000 in
set_option maxRecDepth 100000 in
theorem c_In_readBranch (l : Launch) (hfl : l.flags = pinnedFlags ++ [noTraceFlag]) (dC : Nat → ClassId) (dI : Nat → Nat → Nat) (cI cJ : ClassId) (a : Nat → Nat) (sz : Nat) (he dp co li op wd tl lc fo : Int) (sf lf nf : Nat → Int32) (hok : okC he dp co li op wd tl lc fo sf lf nf) : tz_Met l ⟨"StoryMachine$Instruction", "readBranch", "()V"⟩ tw_tbl rm_In_readBranch (tzP (dC, dI) vcl cI cJ (gsC a he dp co li op wd tl lc fo sf lf nf) a (adC a) [.ref (a 19)] sz) (tq_Q (q_In_readBranch dC dI cI cJ a he dp co li op wd tl lc fo sf lf nf) (ga (adC a) sz)) 0 0 1 6 (ga (adC a) sz) := by
  refine tz_ofW (cc := prog_5_method_10_code) (maxL := 2) (ret := none) (by decide) (tx_isM mw_595) ?_
  intro p e s m args below meth c s₁ B hml hv
  obtain ⟨rfl, hsz, hI0, hK, hst0⟩ := hv
  have hx := B.exec
  have hb := B.bytes
  have hr := B.returns
  have hts := atoms_spec (ws := tw_tbl) B.pre
  have hown : s.vm.findClass "StoryMachine$Instruction" = some m.cls := findClass_of_methodNamed B.named
  have hlocks := B.notSynchronized
  subst hsz
  have hst := fun (H : Heap) (locs : List Loc) (hS : va_S (ga (adC a) s.heap.size) s.heap H locs) (U : State) (hU : U.heap = H) (hW : s.WarmedH U.vm) => zS_all adC_map hI0 hst0 hS hU hW
  have hAC : ∀ q ∈ adC a, ga (adC a) s.heap.size q := fun q h => Or.inl h
  have hA0 : ∀ q, s.heap.size ≤ q → ga (adC a) s.heap.size q := fun q h => Or.inr h
  have hI : sI (dC, dI) vcl cI cJ (gsC a he dp co li op wd tl lc fo sf lf nf) (ga (adC a) s.heap.size) s.heap s.heap [] := ⟨hI0, va_S.rf⟩
  clear hI0 hst0
  have hl := lv_entry ([.ref (a 19)]) (n := 2) (Nat.le_of_ble_eq_true rfl)
  rw [lg_entry_eq]
  generalize (lg_sl ([.ref (a 19)]) ++ List.replicate (2 - (lg_sl ([.ref (a 19)])).length) Slot.unset).toArray = ls at hl ⊢
  have hl : lv_has ls 2 [(0, .ref (a 19))] := hl
  generalize hZ : tz_MQ below (tq_Q (q_In_readBranch dC dI cI cJ a he dp co li op wd tl lc fo sf lf nf) (ga (adC a) s.heap.size)) ([.ref (a 19)] : List Value).toArray s 0 0 1 6 (ga (adC a) s.heap.size) = Z
  obtain ⟨A, hAe⟩ : ∃ A, A = ga (adC a) s.heap.size := ⟨_, rfl⟩
  rw [← hAe] at hst hAC hA0 hI hZ
  refine sv_start hI (fun H locs hI => ?_)
  obtain ⟨⟨o1, o2⟩, ⟨o3, o4⟩, ⟨o5, o6⟩, ⟨o7, o8⟩, ⟨o9, o10⟩, ⟨o11, o12⟩, ⟨o13, o14⟩, ⟨o15, o16⟩, ⟨o17, o18⟩, o19, -, -⟩ := id hok
  refine lv_aload_n hx hb d_In_readBranch_0 rfl (lv_at hl 0 rfl) ?_
  refine tz_call (A1 := ga (adC a) H.size) (tz_runV (C := "StoryMachine$Instruction") (As := []) (rest := []) ⟨hx, hb, hml, hown, hts⟩ (c_In_nextByte l hfl dC dI cI cJ a H.size he dp co li op wd tl lc fo sf lf nf  hok) (tx_cb (n := 0) hts rfl rfl ⟨Nat.le_of_ble_eq_true rfl, Nat.le_of_ble_eq_true rfl⟩ (tx_code.of (hts _ mw_507)) (hts _ mw_11) (by decide +kernel) (hts _ mw_504)) (hts _ mw_506) (hts _ ms_In_nextByte) ⟨tz_blind, sv_recv (q0 := 19) hts in_In hK hI kC_19 rfl, fun U hU hW => ⟨rfl, by rw [hU], by rw [hU]; exact hI.1, va_K.moved hW.alike hK, hst _ _ hI.2 U hU hW⟩⟩ rfl rfl hl.1 rfl (lv_room (Nat.le_of_ble_eq_true rfl)) d_In_readBranch_1 ⟨Nat.le_of_ble_eq_true rfl, Nat.le_of_ble_eq_true rfl⟩) hI.2 (fun q _ h => ga_sub hAC hA0 hI.2 q h) (ga_sub hAC hA0 hI.2) (fun v t H1 locs1 ht hWt hpost _ _ hS => ?_) (fun x t H1 locs1 ht hWt hpost _ _ hS => ?_)
  · rcases hpost.1 _ rfl with ⟨z20, hv, c21, c21_0, c21_1, hI1⟩
    cases hv
    have hI : sI (dC, dI) vcl cI cJ (gsC a he dp co li op wd tl lc fo sf lf nf) A s.heap H1 locs1 := ⟨by rw [← ht]; exact hI1, hS⟩
    clear hpost hI1 hS ht hWt
    revert hI; generalize H1 = H; generalize locs1 = locs; intro hI
    refine lv_istore_n (lv' := [(1, .int z20), (0, .ref (a 19))]) hx hb d_In_readBranch_4 rfl hl (by decide) rfl (fun ls hl => ?_)
    refine lv_aload_n hx hb d_In_readBranch_5 rfl (lv_at hl 1 rfl) ?_
    refine lv_iload_n hx hb d_In_readBranch_6 rfl (lv_at hl 0 rfl) ?_
    refine sn_sipush hx hb d_In_readBranch_7 (by decide) (fun z22 hz22 => ?_)
    refine sn_iandT hx hb d_In_readBranch_10 (fun z23 hz23a hz23b => ?_)
    refine sn_if_eq (tgt := 18) hx hb d_In_readBranch_11 (by decide) (fun b24 => ?_) (fun b24 => ?_)
    · refine sn_iconst hx hb d_In_readBranch_18 (by decide) (fun z25 hz25 => ?_)
      refine sv_put (C := "StoryMachine$Instruction") (T := T_In) (N := 11) (ty := .boolean) hx hb hts in_In t_In tk_In nm_In hown hK (sh_in adC_map hAC) hI 19 kC_19 rfl 8 (by decide) (hts _ mw_233) rfl (by decide +kernel) (sn_bool (by omega) (by omega)).1 (sn_bool (by omega) (by omega)).2 (Nat.le_of_ble_eq_true rfl) (by omega) (by omega) pC_19_8 d_In_readBranch_19 (fun H locs hI => ?_)
      refine lv_aload_n hx hb d_In_readBranch_22 rfl (lv_at hl 1 rfl) ?_
      refine lv_iload_n hx hb d_In_readBranch_23 rfl (lv_at hl 0 rfl) ?_
      refine sn_bipush hx hb d_In_readBranch_24 (by decide) (fun z26 hz26 => ?_)
      refine sn_iand (k := 6) (M := 63) hx hb d_In_readBranch_26 (by decide) (by decide) (by omega) (fun z27 hz27a hz27b hz27c => ?_)
      clear hz27c
      refine sv_put (C := "StoryMachine$Instruction") (T := T_In) (N := 11) (ty := .int) hx hb hts in_In t_In tk_In nm_In hown hK (sh_in adC_map hAC) hI 19 kC_19 rfl 9 (by decide) (hts _ mw_235) rfl (by decide +kernel) rfl rfl (Nat.le_of_ble_eq_true rfl) (by omega) (by omega) pC_19_9 d_In_readBranch_27 (fun H locs hI => ?_)
      refine lv_iload_n hx hb d_In_readBranch_30 rfl (lv_at hl 0 rfl) ?_
      refine sn_bipush hx hb d_In_readBranch_31 (by decide) (fun z28 hz28 => ?_)
      refine sn_iandT hx hb d_In_readBranch_33 (fun z29 hz29a hz29b => ?_)
      refine sn_if_ne (tgt := 75) hx hb d_In_readBranch_34 (by decide) (fun b30 => ?_) (fun b30 => ?_)
      · subst hZ
        exact tz_ret (W.vret hx hb hr (fun t ht hW => ⟨⟨fun v9 hv9 => by cases hv9; exact (⟨rfl, c21, by rw [ht]; exact hI.1⟩), fun x9 hx9 => (by cases hx9)⟩, hI.2.F ht⟩) hI.2.2.2 d_In_readBranch_75)
      · refine lv_aload_n hx hb d_In_readBranch_37 rfl (lv_at hl 1 rfl) ?_
        refine lv_aload_n hx hb d_In_readBranch_38 rfl (lv_at hl 1 rfl) ?_
        refine sv_get (C := "StoryMachine$Instruction") (T := T_In) (N := 11) hx hb hts in_In hown hK hI 19 kC_19 rfl 9 (by decide) (hts _ mw_235) rfl d_In_readBranch_39 (fun z31 hz31a hz31b => ?_)
        refine sn_bipush hx hb d_In_readBranch_42 (by decide) (fun z32 hz32 => ?_)
        refine sn_ishlT hx hb d_In_readBranch_44 (fun z33 hz33a hz33b => ?_)
        refine lv_aload_n hx hb d_In_readBranch_45 rfl (lv_at hl 1 rfl) ?_
        refine tz_call (A1 := ga (adC a) H.size) (tz_runV (C := "StoryMachine$Instruction") (As := []) (rest := [.int z33, .ref (a 19)]) ⟨hx, hb, hml, hown, hts⟩ (c_In_nextByte l hfl dC dI cI cJ a H.size he dp co li op wd tl lc fo sf lf nf  c21) (tx_cb (n := 0) hts rfl rfl ⟨Nat.le_of_ble_eq_true rfl, Nat.le_of_ble_eq_true rfl⟩ (tx_code.of (hts _ mw_507)) (hts _ mw_11) (by decide +kernel) (hts _ mw_504)) (hts _ mw_506) (hts _ ms_In_nextByte) ⟨tz_blind, sv_recv (q0 := 19) hts in_In hK hI kC_19 rfl, fun U hU hW => ⟨rfl, by rw [hU], by rw [hU]; exact hI.1, va_K.moved hW.alike hK, hst _ _ hI.2 U hU hW⟩⟩ rfl rfl hl.1 rfl (lv_room (Nat.le_of_ble_eq_true rfl)) d_In_readBranch_46 ⟨Nat.le_of_ble_eq_true rfl, Nat.le_of_ble_eq_true rfl⟩) hI.2 (fun q _ h => ga_sub hAC hA0 hI.2 q h) (ga_sub hAC hA0 hI.2) (fun v t H1 locs1 ht hWt hpost _ _ hS => ?_) (fun x t H1 locs1 ht hWt hpost _ _ hS => ?_)
        · rcases hpost.1 _ rfl with ⟨z34, hv, c35, c35_0, c35_1, hI1⟩
          cases hv
          have hI : sI (dC, dI) vcl cI cJ (gsC a he dp co li op wd tl lc fo sf lf nf) A s.heap H1 locs1 := ⟨by rw [← ht]; exact hI1, hS⟩
          clear hpost hI1 hS ht hWt
          revert hI; generalize H1 = H; generalize locs1 = locs; intro hI
          refine sn_iorT hx hb d_In_readBranch_49 (fun z36 hz36a hz36b => ?_)
          refine sv_put (C := "StoryMachine$Instruction") (T := T_In) (N := 11) (ty := .int) hx hb hts in_In t_In tk_In nm_In hown hK (sh_in adC_map hAC) hI 19 kC_19 rfl 9 (by decide) (hts _ mw_235) rfl (by decide +kernel) rfl rfl (Nat.le_of_ble_eq_true rfl) (by omega) (by omega) pC_19_9 d_In_readBranch_50 (fun H locs hI => ?_)
          refine lv_aload_n hx hb d_In_readBranch_53 rfl (lv_at hl 1 rfl) ?_
          refine sv_get (C := "StoryMachine$Instruction") (T := T_In) (N := 11) hx hb hts in_In hown hK hI 19 kC_19 rfl 9 (by decide) (hts _ mw_235) rfl d_In_readBranch_54 (fun z37 hz37a hz37b => ?_)
          refine sn_sipush hx hb d_In_readBranch_57 (by decide) (fun z38 hz38 => ?_)
          refine sn_icmp_lt (tgt := 75) hx hb d_In_readBranch_60 (by decide) (fun b39 => ?_) (fun b39 => ?_)
          · subst hZ
            exact tz_ret (W.vret hx hb hr (fun t ht hW => ⟨⟨fun v9 hv9 => by cases hv9; exact (⟨rfl, c35, by rw [ht]; exact hI.1⟩), fun x9 hx9 => (by cases hx9)⟩, hI.2.F ht⟩) hI.2.2.2 d_In_readBranch_75)
          · refine lv_aload_n hx hb d_In_readBranch_63 rfl (lv_at hl 1 rfl) ?_
            refine lv_dup hx hb d_In_readBranch_64 rfl ?_
            refine sv_get (C := "StoryMachine$Instruction") (T := T_In) (N := 11) hx hb hts in_In hown hK hI 19 kC_19 rfl 9 (by decide) (hts _ mw_235) rfl d_In_readBranch_65 (fun z40 hz40a hz40b => ?_)
            refine sn_sipush hx hb d_In_readBranch_68 (by decide) (fun z41 hz41 => ?_)
            refine sn_isubT hx hb d_In_readBranch_71 (fun z42 hz42a hz42b => ?_)
            refine sv_put (C := "StoryMachine$Instruction") (T := T_In) (N := 11) (ty := .int) hx hb hts in_In t_In tk_In nm_In hown hK (sh_in adC_map hAC) hI 19 kC_19 rfl 9 (by decide) (hts _ mw_235) rfl (by decide +kernel) rfl rfl (Nat.le_of_ble_eq_true rfl) (by omega) (by omega) pC_19_9 d_In_readBranch_72 (fun H locs hI => ?_)
            subst hZ
            exact tz_ret (W.vret hx hb hr (fun t ht hW => ⟨⟨fun v9 hv9 => by cases hv9; exact (⟨rfl, c35, by rw [ht]; exact hI.1⟩), fun x9 hx9 => (by cases hx9)⟩, hI.2.F ht⟩) hI.2.2.2 d_In_readBranch_75)
        · rcases hpost.2 _ rfl with ⟨hex, c43, hI1⟩
          have hI : sI (dC, dI) vcl cI cJ (gsC a he dp co li op wd tl lc fo sf lf nf) A s.heap H1 locs1 := ⟨by rw [← ht]; exact hI1, hS⟩
          refine tz_widen (k := 1) (n := 6) (Nat.le_of_ble_eq_true rfl) (Nat.le_of_ble_eq_true rfl) ?_
          subst hZ
          exact tz_leave (tx_noH B (hts _ mw_595) _) (fun t9 ht9 hW9 => ⟨⟨fun v9 hv9 => (by cases hv9), fun x9 hx9 => by cases hx9; exact (⟨ta_exm hex ht ht9 hWt hW9, c43, by rw [ht9]; exact hI.1⟩)⟩, hI.2.F ht9⟩) hI.2.2.2 hlocks
    · refine sn_iconst hx hb d_In_readBranch_14 (by decide) (fun z44 hz44 => ?_)
      refine lv_goto (tgt := 19) hx hb d_In_readBranch_15 (by decide) ?_
      refine sv_put (C := "StoryMachine$Instruction") (T := T_In) (N := 11) (ty := .boolean) hx hb hts in_In t_In tk_In nm_In hown hK (sh_in adC_map hAC) hI 19 kC_19 rfl 8 (by decide) (hts _ mw_233) rfl (by decide +kernel) (sn_bool (by omega) (by omega)).1 (sn_bool (by omega) (by omega)).2 (Nat.le_of_ble_eq_true rfl) (by omega) (by omega) pC_19_8 d_In_readBranch_19 (fun H locs hI => ?_)
      refine lv_aload_n hx hb d_In_readBranch_22 rfl (lv_at hl 1 rfl) ?_
      refine lv_iload_n hx hb d_In_readBranch_23 rfl (lv_at hl 0 rfl) ?_
      refine sn_bipush hx hb d_In_readBranch_24 (by decide) (fun z45 hz45 => ?_)
      refine sn_iand (k := 6) (M := 63) hx hb d_In_readBranch_26 (by decide) (by decide) (by omega) (fun z46 hz46a hz46b hz46c => ?_)
      clear hz46c
      refine sv_put (C := "StoryMachine$Instruction") (T := T_In) (N := 11) (ty := .int) hx hb hts in_In t_In tk_In nm_In hown hK (sh_in adC_map hAC) hI 19 kC_19 rfl 9 (by decide) (hts _ mw_235) rfl (by decide +kernel) rfl rfl (Nat.le_of_ble_eq_true rfl) (by omega) (by omega) pC_19_9 d_In_readBranch_27 (fun H locs hI => ?_)
      refine lv_iload_n hx hb d_In_readBranch_30 rfl (lv_at hl 0 rfl) ?_
      refine sn_bipush hx hb d_In_readBranch_31 (by decide) (fun z47 hz47 => ?_)
      refine sn_iandT hx hb d_In_readBranch_33 (fun z48 hz48a hz48b => ?_)
      refine sn_if_ne (tgt := 75) hx hb d_In_readBranch_34 (by decide) (fun b49 => ?_) (fun b49 => ?_)
      · subst hZ
        exact tz_ret (W.vret hx hb hr (fun t ht hW => ⟨⟨fun v9 hv9 => by cases hv9; exact (⟨rfl, c21, by rw [ht]; exact hI.1⟩), fun x9 hx9 => (by cases hx9)⟩, hI.2.F ht⟩) hI.2.2.2 d_In_readBranch_75)
      · refine lv_aload_n hx hb d_In_readBranch_37 rfl (lv_at hl 1 rfl) ?_
        refine lv_aload_n hx hb d_In_readBranch_38 rfl (lv_at hl 1 rfl) ?_
        refine sv_get (C := "StoryMachine$Instruction") (T := T_In) (N := 11) hx hb hts in_In hown hK hI 19 kC_19 rfl 9 (by decide) (hts _ mw_235) rfl d_In_readBranch_39 (fun z50 hz50a hz50b => ?_)
        refine sn_bipush hx hb d_In_readBranch_42 (by decide) (fun z51 hz51 => ?_)
        refine sn_ishlT hx hb d_In_readBranch_44 (fun z52 hz52a hz52b => ?_)
        refine lv_aload_n hx hb d_In_readBranch_45 rfl (lv_at hl 1 rfl) ?_
        refine tz_call (A1 := ga (adC a) H.size) (tz_runV (C := "StoryMachine$Instruction") (As := []) (rest := [.int z52, .ref (a 19)]) ⟨hx, hb, hml, hown, hts⟩ (c_In_nextByte l hfl dC dI cI cJ a H.size he dp co li op wd tl lc fo sf lf nf  c21) (tx_cb (n := 0) hts rfl rfl ⟨Nat.le_of_ble_eq_true rfl, Nat.le_of_ble_eq_true rfl⟩ (tx_code.of (hts _ mw_507)) (hts _ mw_11) (by decide +kernel) (hts _ mw_504)) (hts _ mw_506) (hts _ ms_In_nextByte) ⟨tz_blind, sv_recv (q0 := 19) hts in_In hK hI kC_19 rfl, fun U hU hW => ⟨rfl, by rw [hU], by rw [hU]; exact hI.1, va_K.moved hW.alike hK, hst _ _ hI.2 U hU hW⟩⟩ rfl rfl hl.1 rfl (lv_room (Nat.le_of_ble_eq_true rfl)) d_In_readBranch_46 ⟨Nat.le_of_ble_eq_true rfl, Nat.le_of_ble_eq_true rfl⟩) hI.2 (fun q _ h => ga_sub hAC hA0 hI.2 q h) (ga_sub hAC hA0 hI.2) (fun v t H1 locs1 ht hWt hpost _ _ hS => ?_) (fun x t H1 locs1 ht hWt hpost _ _ hS => ?_)
        · rcases hpost.1 _ rfl with ⟨z53, hv, c54, c54_0, c54_1, hI1⟩
          cases hv
          have hI : sI (dC, dI) vcl cI cJ (gsC a he dp co li op wd tl lc fo sf lf nf) A s.heap H1 locs1 := ⟨by rw [← ht]; exact hI1, hS⟩
          clear hpost hI1 hS ht hWt
          revert hI; generalize H1 = H; generalize locs1 = locs; intro hI
          refine sn_iorT hx hb d_In_readBranch_49 (fun z55 hz55a hz55b => ?_)
          refine sv_put (C := "StoryMachine$Instruction") (T := T_In) (N := 11) (ty := .int) hx hb hts in_In t_In tk_In nm_In hown hK (sh_in adC_map hAC) hI 19 kC_19 rfl 9 (by decide) (hts _ mw_235) rfl (by decide +kernel) rfl rfl (Nat.le_of_ble_eq_true rfl) (by omega) (by omega) pC_19_9 d_In_readBranch_50 (fun H locs hI => ?_)
          refine lv_aload_n hx hb d_In_readBranch_53 rfl (lv_at hl 1 rfl) ?_
          refine sv_get (C := "StoryMachine$Instruction") (T := T_In) (N := 11) hx hb hts in_In hown hK hI 19 kC_19 rfl 9 (by decide) (hts _ mw_235) rfl d_In_readBranch_54 (fun z56 hz56a hz56b => ?_)
          refine sn_sipush hx hb d_In_readBranch_57 (by decide) (fun z57 hz57 => ?_)
          refine sn_icmp_lt (tgt := 75) hx hb d_In_readBranch_60 (by decide) (fun b58 => ?_) (fun b58 => ?_)
          · subst hZ
            exact tz_ret (W.vret hx hb hr (fun t ht hW => ⟨⟨fun v9 hv9 => by cases hv9; exact (⟨rfl, c54, by rw [ht]; exact hI.1⟩), fun x9 hx9 => (by cases hx9)⟩, hI.2.F ht⟩) hI.2.2.2 d_In_readBranch_75)
          · refine lv_aload_n hx hb d_In_readBranch_63 rfl (lv_at hl 1 rfl) ?_
            refine lv_dup hx hb d_In_readBranch_64 rfl ?_
            refine sv_get (C := "StoryMachine$Instruction") (T := T_In) (N := 11) hx hb hts in_In hown hK hI 19 kC_19 rfl 9 (by decide) (hts _ mw_235) rfl d_In_readBranch_65 (fun z59 hz59a hz59b => ?_)
            refine sn_sipush hx hb d_In_readBranch_68 (by decide) (fun z60 hz60 => ?_)
            refine sn_isubT hx hb d_In_readBranch_71 (fun z61 hz61a hz61b => ?_)
            refine sv_put (C := "StoryMachine$Instruction") (T := T_In) (N := 11) (ty := .int) hx hb hts in_In t_In tk_In nm_In hown hK (sh_in adC_map hAC) hI 19 kC_19 rfl 9 (by decide) (hts _ mw_235) rfl (by decide +kernel) rfl rfl (Nat.le_of_ble_eq_true rfl) (by omega) (by omega) pC_19_9 d_In_readBranch_72 (fun H locs hI => ?_)
            subst hZ
            exact tz_ret (W.vret hx hb hr (fun t ht hW => ⟨⟨fun v9 hv9 => by cases hv9; exact (⟨rfl, c54, by rw [ht]; exact hI.1⟩), fun x9 hx9 => (by cases hx9)⟩, hI.2.F ht⟩) hI.2.2.2 d_In_readBranch_75)
        · rcases hpost.2 _ rfl with ⟨hex, c62, hI1⟩
          have hI : sI (dC, dI) vcl cI cJ (gsC a he dp co li op wd tl lc fo sf lf nf) A s.heap H1 locs1 := ⟨by rw [← ht]; exact hI1, hS⟩
          refine tz_widen (k := 1) (n := 6) (Nat.le_of_ble_eq_true rfl) (Nat.le_of_ble_eq_true rfl) ?_
          subst hZ
          exact tz_leave (tx_noH B (hts _ mw_595) _) (fun t9 ht9 hW9 => ⟨⟨fun v9 hv9 => (by cases hv9), fun x9 hx9 => by cases hx9; exact (⟨ta_exm hex ht ht9 hWt hW9, c62, by rw [ht9]; exact hI.1⟩)⟩, hI.2.F ht9⟩) hI.2.2.2 hlocks
  · rcases hpost.2 _ rfl with ⟨hex, c63, hI1⟩
    have hI : sI (dC, dI) vcl cI cJ (gsC a he dp co li op wd tl lc fo sf lf nf) A s.heap H1 locs1 := ⟨by rw [← ht]; exact hI1, hS⟩
    refine tz_widen (k := 1) (n := 6) (Nat.le_of_ble_eq_true rfl) (Nat.le_of_ble_eq_true rfl) ?_
    subst hZ
    exact tz_leave (tx_noH B (hts _ mw_595) _) (fun t9 ht9 hW9 => ⟨⟨fun v9 hv9 => (by cases hv9), fun x9 hx9 => by cases hx9; exact (⟨ta_exm hex ht ht9 hWt hW9, c63, by rw [ht9]; exact hI.1⟩)⟩, hI.2.F ht9⟩) hI.2.2.2 hlocks
