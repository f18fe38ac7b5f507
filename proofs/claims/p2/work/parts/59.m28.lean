abbrev q_Mo_thrown (dC : Nat → ClassId) (dI : Nat → Nat → Nat) (cI cJ : ClassId) (a : Nat → Nat) (th tr dp zi co sh lt ts : Int) (mf : Nat → Int32) : Outcome → State → Prop := fun o t => (∀ v, o = .returned v → ((∃ (z : Int32), v = some (.int z) ∧ okM th tr dp zi co sh lt ts mf ∧ (0 ≤ z.toInt) ∧ (z.toInt ≤ 2) ∧ (z.toInt = th) ∧ sh_I (dC, dI) vcl cI cJ (gsM a th tr dp zi co sh lt ts mf) t.heap))) ∧ (∀ x, o = .threw x → (False))
def rm_Mo_thrown : Room := { frames := 0, cells := 0, slots := 0, locals := 0 }
set_option maxHeartbeats 4000000 in
set_option maxRecDepth 100000 in
theorem c_Mo_thrown (l : Launch) (hfl : l.flags = pinnedFlags ++ [noTraceFlag]) (dC : Nat → ClassId) (dI : Nat → Nat → Nat) (cI cJ : ClassId) (a : Nat → Nat) (sz : Nat) (th tr dp zi co sh lt ts : Int) (mf : Nat → Int32) (hok : okM th tr dp zi co sh lt ts mf) : tz_Met l ⟨"StoryMachineModel", "thrown", "()I"⟩ tw_tbl rm_Mo_thrown (tzP (dC, dI) vcl cI cJ (gsM a th tr dp zi co sh lt ts mf) a (adM a) [.ref (a 0)] sz) (tq_Q (q_Mo_thrown dC dI cI cJ a th tr dp zi co sh lt ts mf) (ga (adM a) sz)) 0 0 0 0 (ga (adM a) sz) := by
  refine tz_ofW (cc := prog_13_method_2_code) (maxL := 1) (ret := (some .int)) (by decide) (tx_isM mw_1220) ?_
  intro p e s m args below meth c s₁ B hml hv
  obtain ⟨rfl, hsz, hI0, hK, hst0⟩ := hv
  have hx := B.exec
  have hb := B.bytes
  have hr := B.returns
  have hts := atoms_spec (ws := tw_tbl) B.pre
  have hown : s.vm.findClass "StoryMachineModel" = some m.cls := findClass_of_methodNamed B.named
  have hlocks := B.notSynchronized
  subst hsz
  have hst := fun (H : Heap) (locs : List Loc) (hS : va_S (ga (adM a) s.heap.size) s.heap H locs) (U : State) (hU : U.heap = H) (hW : s.WarmedH U.vm) => zS_all adM_map hI0 hst0 hS hU hW
  have hAC : ∀ q ∈ adM a, ga (adM a) s.heap.size q := fun q h => Or.inl h
  have hA0 : ∀ q, s.heap.size ≤ q → ga (adM a) s.heap.size q := fun q h => Or.inr h
  have hI : sI (dC, dI) vcl cI cJ (gsM a th tr dp zi co sh lt ts mf) (ga (adM a) s.heap.size) s.heap s.heap [] := ⟨hI0, va_S.rf⟩
  clear hI0 hst0
  have hl := lv_entry ([.ref (a 0)]) (n := 1) (Nat.le_of_ble_eq_true rfl)
  rw [lg_entry_eq]
  generalize (lg_sl ([.ref (a 0)]) ++ List.replicate (1 - (lg_sl ([.ref (a 0)])).length) Slot.unset).toArray = ls at hl ⊢
  have hl : lv_has ls 1 [(0, .ref (a 0))] := hl
  generalize hZ : tz_MQ below (tq_Q (q_Mo_thrown dC dI cI cJ a th tr dp zi co sh lt ts mf) (ga (adM a) s.heap.size)) ([.ref (a 0)] : List Value).toArray s 0 0 0 0 (ga (adM a) s.heap.size) = Z
  obtain ⟨A, hAe⟩ : ∃ A, A = ga (adM a) s.heap.size := ⟨_, rfl⟩
  rw [← hAe] at hst hAC hA0 hI hZ
  refine sv_start hI (fun H locs hI => ?_)
  obtain ⟨⟨o1, o2⟩, ⟨o3, o4⟩, ⟨o5, o6⟩, ⟨o7, o8⟩, ⟨o9, o10⟩, ⟨o11, o12⟩, ⟨o13, o14⟩, ⟨o15, o16⟩, -⟩ := id hok
  refine lv_aload_n hx hb d_Mo_thrown_0 rfl (lv_at hl 0 rfl) ?_
  refine sv_gete (C := "StoryMachineModel") (T := T_Mo) (N := 51) hx hb hts in_Mo hown hK hI 0 kM_0 rfl 0 (by decide) (hts _ mw_1063) rfl d_Mo_thrown_1 (fun z17 hz17 => ?_)
  subst hZ
  exact tz_ret (W.iret (v := z17) hx hb hr (fun t ht hW => ⟨⟨fun v9 hv9 => by cases hv9; exact (⟨z17, rfl, hok, by omega, by omega, by omega, by rw [ht]; exact hI.1⟩), fun x9 hx9 => (by cases hx9)⟩, hI.2.F ht⟩) hI.2.2.2 d_Mo_thrown_4)
abbrev q_Mo_peek (dC : Nat → ClassId) (dI : Nat → Nat → Nat) (cI cJ : ClassId) (a : Nat → Nat) (th tr dp zi co sh lt ts : Int) (mf : Nat → Int32) (x1 : Int32) : Outcome → State → Prop := fun o t => (∀ v, o = .returned v → ((∃ (z : Int32) (th_ : Int), v = some (.int z) ∧ okM th_ tr dp zi co sh lt ts mf ∧ (0 ≤ z.toInt) ∧ (z.toInt ≤ 255) ∧ (th_ ≤ 1) ∧ sh_I (dC, dI) vcl cI cJ (gsM a th_ tr dp zi co sh lt ts mf) t.heap))) ∧ (∀ x, o = .threw x → (False))
def rm_Mo_peek : Room := { frames := 0, cells := 0, slots := 0, locals := 0 }
set_option maxHeartbeats 4000000 in
set_option maxRecDepth 100000 in
theorem c_Mo_peek (l : Launch) (hfl : l.flags = pinnedFlags ++ [noTraceFlag]) (dC : Nat → ClassId) (dI : Nat → Nat → Nat) (cI cJ : ClassId) (a : Nat → Nat) (sz : Nat) (th tr dp zi co sh lt ts : Int) (mf : Nat → Int32) (x1 : Int32) (hok : okM th tr dp zi co sh lt ts mf) : tz_Met l ⟨"StoryMachineModel", "peek", "(I)I"⟩ tw_tbl rm_Mo_peek (tzP (dC, dI) vcl cI cJ (gsM a th tr dp zi co sh lt ts mf) a (adM a) [.ref (a 0), .int x1] sz) (tq_Q (q_Mo_peek dC dI cI cJ a th tr dp zi co sh lt ts mf x1) (ga (adM a) sz)) 0 0 0 0 (ga (adM a) sz) := by
  refine tz_ofW (cc := prog_13_method_75_code) (maxL := 2) (ret := (some .int)) (by decide) (tx_isM mw_1508) ?_
  intro p e s m args below meth c s₁ B hml hv
  obtain ⟨rfl, hsz, hI0, hK, hst0⟩ := hv
  have hx := B.exec
  have hb := B.bytes
  have hr := B.returns
  have hts := atoms_spec (ws := tw_tbl) B.pre
  have hown : s.vm.findClass "StoryMachineModel" = some m.cls := findClass_of_methodNamed B.named
  have hlocks := B.notSynchronized
  subst hsz
  have hst := fun (H : Heap) (locs : List Loc) (hS : va_S (ga (adM a) s.heap.size) s.heap H locs) (U : State) (hU : U.heap = H) (hW : s.WarmedH U.vm) => zS_all adM_map hI0 hst0 hS hU hW
  have hAC : ∀ q ∈ adM a, ga (adM a) s.heap.size q := fun q h => Or.inl h
  have hA0 : ∀ q, s.heap.size ≤ q → ga (adM a) s.heap.size q := fun q h => Or.inr h
  have hI : sI (dC, dI) vcl cI cJ (gsM a th tr dp zi co sh lt ts mf) (ga (adM a) s.heap.size) s.heap s.heap [] := ⟨hI0, va_S.rf⟩
  clear hI0 hst0
  have hl := lv_entry ([.ref (a 0), .int x1]) (n := 2) (Nat.le_of_ble_eq_true rfl)
  rw [lg_entry_eq]
  generalize (lg_sl ([.ref (a 0), .int x1]) ++ List.replicate (2 - (lg_sl ([.ref (a 0), .int x1])).length) Slot.unset).toArray = ls at hl ⊢
  have hl : lv_has ls 2 [(0, .ref (a 0)), (1, .int x1)] := hl
  generalize hZ : tz_MQ below (tq_Q (q_Mo_peek dC dI cI cJ a th tr dp zi co sh lt ts mf x1) (ga (adM a) s.heap.size)) ([.ref (a 0), .int x1] : List Value).toArray s 0 0 0 0 (ga (adM a) s.heap.size) = Z
  obtain ⟨A, hAe⟩ : ∃ A, A = ga (adM a) s.heap.size := ⟨_, rfl⟩
  rw [← hAe] at hst hAC hA0 hI hZ
  refine sv_start hI (fun H locs hI => ?_)
  obtain ⟨⟨o1, o2⟩, ⟨o3, o4⟩, ⟨o5, o6⟩, ⟨o7, o8⟩, ⟨o9, o10⟩, ⟨o11, o12⟩, ⟨o13, o14⟩, ⟨o15, o16⟩, -⟩ := id hok
  have gx1 := sn_rng x1
  refine lv_aload_n hx hb d_Mo_peek_0 rfl (lv_at hl 0 rfl) ?_
  refine lv_iload_n hx hb d_Mo_peek_1 rfl (lv_at hl 1 rfl) ?_
  refine sn_if_lt (tgt := 12) hx hb d_Mo_peek_2 (by decide) (fun b17 => ?_) (fun b17 => ?_)
  · refine sn_iconst hx hb d_Mo_peek_12 (by decide) (fun z18 hz18 => ?_)
    refine lv_goto (tgt := 17) hx hb d_Mo_peek_13 (by decide) ?_
    refine sv_put (C := "StoryMachineModel") (T := T_Mo) (N := 51) (ty := .int) hx hb hts in_Mo t_Mo tk_Mo nm_Mo hown hK (sh_in adM_map hAC) hI 0 kM_0 rfl 0 (by decide) (hts _ mw_1063) rfl (by decide +kernel) rfl rfl (Nat.le_of_ble_eq_true rfl) (Int.le_refl _) (Int.le_refl _) pM_0_0 d_Mo_peek_17 (fun H locs hI => ?_)
    refine lv_aload_n hx hb d_Mo_peek_20 rfl (lv_at hl 0 rfl) ?_
    refine sv_gete (C := "StoryMachineModel") (T := T_Mo) (N := 51) hx hb hts in_Mo hown hK hI 0 kM_0 rfl 0 (by decide) (hts _ mw_1063) rfl d_Mo_peek_21 (fun z19 hz19 => ?_)
    refine sn_if_le (tgt := 31) hx hb d_Mo_peek_24 (by decide) (fun b20 => ?_) (fun b20 => ?_)
    · omega
    · refine sn_iconst hx hb d_Mo_peek_27 (by decide) (fun z21 hz21 => ?_)
      refine lv_goto (tgt := 37) hx hb d_Mo_peek_28 (by decide) ?_
      have ho22 : okM z18.toInt tr dp zi co sh lt ts mf := ⟨⟨by omega, by omega⟩, hok.2.1, hok.2.2.1, hok.2.2.2.1, hok.2.2.2.2.1, hok.2.2.2.2.2.1, hok.2.2.2.2.2.2.1, hok.2.2.2.2.2.2.2.1, hok.2.2.2.2.2.2.2.2⟩
      subst hZ
      exact tz_ret (W.iret (v := z21) hx hb hr (fun t ht hW => ⟨⟨fun v9 hv9 => by cases hv9; exact (⟨z21, z18.toInt, rfl, ho22, by omega, by omega, by omega, by rw [ht]; exact hI.1⟩), fun x9 hx9 => (by cases hx9)⟩, hI.2.F ht⟩) hI.2.2.2 d_Mo_peek_37)
  · refine lv_iload_n hx hb d_Mo_peek_5 rfl (lv_at hl 1 rfl) ?_
    refine sn_sipush hx hb d_Mo_peek_6 (by decide) (fun z23 hz23 => ?_)
    refine sn_icmp_le (tgt := 16) hx hb d_Mo_peek_9 (by decide) (fun b24 => ?_) (fun b24 => ?_)
    · refine sn_iconst hx hb d_Mo_peek_16 (by decide) (fun z25 hz25 => ?_)
      refine sv_put (C := "StoryMachineModel") (T := T_Mo) (N := 51) (ty := .int) hx hb hts in_Mo t_Mo tk_Mo nm_Mo hown hK (sh_in adM_map hAC) hI 0 kM_0 rfl 0 (by decide) (hts _ mw_1063) rfl (by decide +kernel) rfl rfl (Nat.le_of_ble_eq_true rfl) (Int.le_refl _) (Int.le_refl _) pM_0_0 d_Mo_peek_17 (fun H locs hI => ?_)
      refine lv_aload_n hx hb d_Mo_peek_20 rfl (lv_at hl 0 rfl) ?_
      refine sv_gete (C := "StoryMachineModel") (T := T_Mo) (N := 51) hx hb hts in_Mo hown hK hI 0 kM_0 rfl 0 (by decide) (hts _ mw_1063) rfl d_Mo_peek_21 (fun z26 hz26 => ?_)
      refine sn_if_le (tgt := 31) hx hb d_Mo_peek_24 (by decide) (fun b27 => ?_) (fun b27 => ?_)
      · refine lv_aload_n hx hb d_Mo_peek_31 rfl (lv_at hl 0 rfl) ?_
        refine sv_getr (C := "StoryMachineModel") (T := T_Mo) (N := 51) hx hb hts in_Mo hown hK hI 0 kM_0 rfl 1 (by decide) (hts _ mw_1064) rfl d_Mo_peek_32 ?_
        refine lv_iload_n hx hb d_Mo_peek_35 rfl (lv_at hl 1 rfl) ?_
        refine sv_ialde hx hb hK hI 1 kM_1 (by omega) (by omega) d_Mo_peek_36 (fun z28 hz28 => ?_)
        have hz28r := hok.2.2.2.2.2.2.2.2 (x1.toNatClampNeg)
        rw [← hz28] at hz28r
        have hz28x : z28.toInt = (mf x1.toInt.toNat).toInt := by rw [hz28]; rfl
        have ho29 : okM z25.toInt tr dp zi co sh lt ts mf := ⟨⟨by omega, by omega⟩, hok.2.1, hok.2.2.1, hok.2.2.2.1, hok.2.2.2.2.1, hok.2.2.2.2.2.1, hok.2.2.2.2.2.2.1, hok.2.2.2.2.2.2.2.1, hok.2.2.2.2.2.2.2.2⟩
        subst hZ
        exact tz_ret (W.iret (v := z28) hx hb hr (fun t ht hW => ⟨⟨fun v9 hv9 => by cases hv9; exact (⟨z28, z25.toInt, rfl, ho29, by omega, by omega, by omega, by rw [ht]; exact hI.1⟩), fun x9 hx9 => (by cases hx9)⟩, hI.2.F ht⟩) hI.2.2.2 d_Mo_peek_37)
      · omega
    · refine sn_iconst hx hb d_Mo_peek_12 (by decide) (fun z30 hz30 => ?_)
      refine lv_goto (tgt := 17) hx hb d_Mo_peek_13 (by decide) ?_
      refine sv_put (C := "StoryMachineModel") (T := T_Mo) (N := 51) (ty := .int) hx hb hts in_Mo t_Mo tk_Mo nm_Mo hown hK (sh_in adM_map hAC) hI 0 kM_0 rfl 0 (by decide) (hts _ mw_1063) rfl (by decide +kernel) rfl rfl (Nat.le_of_ble_eq_true rfl) (Int.le_refl _) (Int.le_refl _) pM_0_0 d_Mo_peek_17 (fun H locs hI => ?_)
      refine lv_aload_n hx hb d_Mo_peek_20 rfl (lv_at hl 0 rfl) ?_
      refine sv_gete (C := "StoryMachineModel") (T := T_Mo) (N := 51) hx hb hts in_Mo hown hK hI 0 kM_0 rfl 0 (by decide) (hts _ mw_1063) rfl d_Mo_peek_21 (fun z31 hz31 => ?_)
      refine sn_if_le (tgt := 31) hx hb d_Mo_peek_24 (by decide) (fun b32 => ?_) (fun b32 => ?_)
      · omega
      · refine sn_iconst hx hb d_Mo_peek_27 (by decide) (fun z33 hz33 => ?_)
        refine lv_goto (tgt := 37) hx hb d_Mo_peek_28 (by decide) ?_
        have ho34 : okM z30.toInt tr dp zi co sh lt ts mf := ⟨⟨by omega, by omega⟩, hok.2.1, hok.2.2.1, hok.2.2.2.1, hok.2.2.2.2.1, hok.2.2.2.2.2.1, hok.2.2.2.2.2.2.1, hok.2.2.2.2.2.2.2.1, hok.2.2.2.2.2.2.2.2⟩
        subst hZ
        exact tz_ret (W.iret (v := z33) hx hb hr (fun t ht hW => ⟨⟨fun v9 hv9 => by cases hv9; exact (⟨z33, z30.toInt, rfl, ho34, by omega, by omega, by omega, by rw [ht]; exact hI.1⟩), fun x9 hx9 => (by cases hx9)⟩, hI.2.F ht⟩) hI.2.2.2 d_Mo_peek_37)
abbrev q_Mo_begin (dC : Nat → ClassId) (dI : Nat → Nat → Nat) (cI cJ : ClassId) (a : Nat → Nat) (th tr dp zi co sh lt ts : Int) (mf : Nat → Int32) : Outcome → State → Prop := fun o t => (∀ v, o = .returned v → ((∃ (th_ dp_ zi_ sh_ ts_ : Int), v = none ∧ okM th_ tr dp_ zi_ co sh_ lt ts_ mf ∧ (th_ ≤ 1) ∧ sh_I (dC, dI) vcl cI cJ (gsM a th_ tr dp_ zi_ co sh_ lt ts_ mf) t.heap))) ∧ (∀ x, o = .threw x → (False))
def rm_Mo_begin : Room := { frames := 0, cells := 0, slots := 0, locals := 0 }
set_option maxHeartbeats 4000000 in
set_option maxRecDepth 100000 in
theorem c_Mo_begin (l : Launch) (hfl : l.flags = pinnedFlags ++ [noTraceFlag]) (dC : Nat → ClassId) (dI : Nat → Nat → Nat) (cI cJ : ClassId) (a : Nat → Nat) (sz : Nat) (th tr dp zi co sh lt ts : Int) (mf : Nat → Int32) (hok : okM th tr dp zi co sh lt ts mf) : tz_Met l ⟨"StoryMachineModel", "begin", "()V"⟩ tw_tbl rm_Mo_begin (tzP (dC, dI) vcl cI cJ (gsM a th tr dp zi co sh lt ts mf) a (adM a) [.ref (a 0)] sz) (tq_Q (q_Mo_begin dC dI cI cJ a th tr dp zi co sh lt ts mf) (ga (adM a) sz)) 0 0 0 0 (ga (adM a) sz) := by
  refine tz_ofW (cc := prog_13_method_76_code) (maxL := 2) (ret := none) (by decide) (tx_isM mw_1512) ?_
  intro p e s m args below meth c s₁ B hml hv
  obtain ⟨rfl, hsz, hI0, hK, hst0⟩ := hv
  have hx := B.exec
  have hb := B.bytes
  have hr := B.returns
  have hts := atoms_spec (ws := tw_tbl) B.pre
  have hown : s.vm.findClass "StoryMachineModel" = some m.cls := findClass_of_methodNamed B.named
  have hlocks := B.notSynchronized
  subst hsz
  have hst := fun (H : Heap) (locs : List Loc) (hS : va_S (ga (adM a) s.heap.size) s.heap H locs) (U : State) (hU : U.heap = H) (hW : s.WarmedH U.vm) => zS_all adM_map hI0 hst0 hS hU hW
  have hAC : ∀ q ∈ adM a, ga (adM a) s.heap.size q := fun q h => Or.inl h
  have hA0 : ∀ q, s.heap.size ≤ q → ga (adM a) s.heap.size q := fun q h => Or.inr h
  have hI : sI (dC, dI) vcl cI cJ (gsM a th tr dp zi co sh lt ts mf) (ga (adM a) s.heap.size) s.heap s.heap [] := ⟨hI0, va_S.rf⟩
  clear hI0 hst0
  have hl := lv_entry ([.ref (a 0)]) (n := 2) (Nat.le_of_ble_eq_true rfl)
  rw [lg_entry_eq]
  generalize (lg_sl ([.ref (a 0)]) ++ List.replicate (2 - (lg_sl ([.ref (a 0)])).length) Slot.unset).toArray = ls at hl ⊢
  have hl : lv_has ls 2 [(0, .ref (a 0))] := hl
  generalize hZ : tz_MQ below (tq_Q (q_Mo_begin dC dI cI cJ a th tr dp zi co sh lt ts mf) (ga (adM a) s.heap.size)) ([.ref (a 0)] : List Value).toArray s 0 0 0 0 (ga (adM a) s.heap.size) = Z
  obtain ⟨A, hAe⟩ : ∃ A, A = ga (adM a) s.heap.size := ⟨_, rfl⟩
  rw [← hAe] at hst hAC hA0 hI hZ
  refine sv_start hI (fun H locs hI => ?_)
  obtain ⟨⟨o1, o2⟩, ⟨o3, o4⟩, ⟨o5, o6⟩, ⟨o7, o8⟩, ⟨o9, o10⟩, ⟨o11, o12⟩, ⟨o13, o14⟩, ⟨o15, o16⟩, -⟩ := id hok
  refine sn_sipush hx hb d_Mo_begin_0 (by decide) (fun z17 hz17 => ?_)
  refine lv_aload_n hx hb d_Mo_begin_3 rfl (lv_at hl 0 rfl) ?_
  refine sv_getr (C := "StoryMachineModel") (T := T_Mo) (N := 51) hx hb hts in_Mo hown hK hI 0 kM_0 rfl 1 (by decide) (hts _ mw_1064) rfl d_Mo_begin_4 ?_
  refine sn_iconst hx hb d_Mo_begin_7 (by decide) (fun z18 hz18 => ?_)
  refine sv_ialde hx hb hK hI 1 kM_1 (by omega) (by omega) d_Mo_begin_8 (fun z19 hz19 => ?_)
  have hz19r := hok.2.2.2.2.2.2.2.2 (z18.toNatClampNeg)
  rw [← hz19] at hz19r
  have hz19x : z19.toInt = (mf z18.toInt.toNat).toInt := by rw [hz19]; rfl
  have hz19y : z19.toInt = (mf 4).toInt := by rw [hz19, show z18.toNatClampNeg = 4 from by have h9 := sn_cl (z := z18) (by omega); omega]
  refine sn_imulL (k := 256) hx hb d_Mo_begin_9 (by omega) (by omega) (by omega) (fun z20 hz20 => ?_)
  refine lv_aload_n hx hb d_Mo_begin_10 rfl (lv_at hl 0 rfl) ?_
  refine sv_getr (C := "StoryMachineModel") (T := T_Mo) (N := 51) hx hb hts in_Mo hown hK hI 0 kM_0 rfl 1 (by decide) (hts _ mw_1064) rfl d_Mo_begin_11 ?_
  refine sn_iconst hx hb d_Mo_begin_14 (by decide) (fun z21 hz21 => ?_)
  refine sv_ialde hx hb hK hI 1 kM_1 (by omega) (by omega) d_Mo_begin_15 (fun z22 hz22 => ?_)
  have hz22r := hok.2.2.2.2.2.2.2.2 (z21.toNatClampNeg)
  rw [← hz22] at hz22r
  have hz22x : z22.toInt = (mf z21.toInt.toNat).toInt := by rw [hz22]; rfl
  have hz22y : z22.toInt = (mf 5).toInt := by rw [hz22, show z21.toNatClampNeg = 5 from by have h9 := sn_cl (z := z21) (by omega); omega]
  refine sn_iadd hx hb d_Mo_begin_16 (by omega) (by omega) (fun z23 hz23 => ?_)
  refine lv_istore_n (lv' := [(1, .int z23), (0, .ref (a 0))]) hx hb d_Mo_begin_17 rfl hl (by decide) rfl (fun ls hl => ?_)
  refine lv_aload_n hx hb d_Mo_begin_18 rfl (lv_at hl 1 rfl) ?_
  refine lv_iload_n hx hb d_Mo_begin_19 rfl (lv_at hl 0 rfl) ?_
  refine sn_sipush hx hb d_Mo_begin_20 (by decide) (fun z24 hz24 => ?_)
  refine sn_icmp_le (tgt := 30) hx hb d_Mo_begin_23 (by decide) (fun b25 => ?_) (fun b25 => ?_)
  · refine sn_iconst hx hb d_Mo_begin_30 (by decide) (fun z26 hz26 => ?_)
    refine sv_put (C := "StoryMachineModel") (T := T_Mo) (N := 51) (ty := .int) hx hb hts in_Mo t_Mo tk_Mo nm_Mo hown hK (sh_in adM_map hAC) hI 0 kM_0 rfl 0 (by decide) (hts _ mw_1063) rfl (by decide +kernel) rfl rfl (Nat.le_of_ble_eq_true rfl) (Int.le_refl _) (Int.le_refl _) pM_0_0 d_Mo_begin_31 (fun H locs hI => ?_)
    refine lv_aload_n hx hb d_Mo_begin_34 rfl (lv_at hl 1 rfl) ?_
    refine sv_gete (C := "StoryMachineModel") (T := T_Mo) (N := 51) hx hb hts in_Mo hown hK hI 0 kM_0 rfl 0 (by decide) (hts _ mw_1063) rfl d_Mo_begin_35 (fun z27 hz27 => ?_)
    refine sn_if_le (tgt := 42) hx hb d_Mo_begin_38 (by decide) (fun b28 => ?_) (fun b28 => ?_)
    · refine lv_aload_n hx hb d_Mo_begin_42 rfl (lv_at hl 1 rfl) ?_
      refine sn_iconst hx hb d_Mo_begin_43 (by decide) (fun z29 hz29 => ?_)
      refine sv_put (C := "StoryMachineModel") (T := T_Mo) (N := 51) (ty := .boolean) hx hb hts in_Mo t_Mo tk_Mo nm_Mo hown hK (sh_in adM_map hAC) hI 0 kM_0 rfl 23 (by decide) (hts _ mw_1086) rfl (by decide +kernel) (sn_bool (by omega) (by omega)).1 (sn_bool (by omega) (by omega)).2 (Nat.le_of_ble_eq_true rfl) (by omega) (by omega) pM_0_23 d_Mo_begin_44 (fun H locs hI => ?_)
      refine lv_aload_n hx hb d_Mo_begin_47 rfl (lv_at hl 1 rfl) ?_
      refine lv_iload_n hx hb d_Mo_begin_48 rfl (lv_at hl 0 rfl) ?_
      refine sv_put (C := "StoryMachineModel") (T := T_Mo) (N := 51) (ty := .int) hx hb hts in_Mo t_Mo tk_Mo nm_Mo hown hK (sh_in adM_map hAC) hI 0 kM_0 rfl 27 (by decide) (hts _ mw_1090) rfl (by decide +kernel) rfl rfl (Nat.le_of_ble_eq_true rfl) (by omega) (by omega) pM_0_27 d_Mo_begin_49 (fun H locs hI => ?_)
      refine lv_aload_n hx hb d_Mo_begin_52 rfl (lv_at hl 1 rfl) ?_
      refine sn_iconst hx hb d_Mo_begin_53 (by decide) (fun z30 hz30 => ?_)
      refine sv_put (C := "StoryMachineModel") (T := T_Mo) (N := 51) (ty := .int) hx hb hts in_Mo t_Mo tk_Mo nm_Mo hown hK (sh_in adM_map hAC) hI 0 kM_0 rfl 2 (by decide) (hts _ mw_1065) rfl (by decide +kernel) rfl rfl (Nat.le_of_ble_eq_true rfl) (Int.le_refl _) (Int.le_refl _) pM_0_2 d_Mo_begin_54 (fun H locs hI => ?_)
      refine lv_aload_n hx hb d_Mo_begin_57 rfl (lv_at hl 1 rfl) ?_
      refine sn_iconst hx hb d_Mo_begin_58 (by decide) (fun z31 hz31 => ?_)
      refine sv_put (C := "StoryMachineModel") (T := T_Mo) (N := 51) (ty := .int) hx hb hts in_Mo t_Mo tk_Mo nm_Mo hown hK (sh_in adM_map hAC) hI 0 kM_0 rfl 4 (by decide) (hts _ mw_1067) rfl (by decide +kernel) rfl rfl (Nat.le_of_ble_eq_true rfl) (Int.le_refl _) (Int.le_refl _) pM_0_4 d_Mo_begin_59 (fun H locs hI => ?_)
      refine lv_aload_n hx hb d_Mo_begin_62 rfl (lv_at hl 1 rfl) ?_
      refine sv_getr (C := "StoryMachineModel") (T := T_Mo) (N := 51) hx hb hts in_Mo hown hK hI 0 kM_0 rfl 5 (by decide) (hts _ mw_1068) rfl d_Mo_begin_63 ?_
      refine sn_iconst hx hb d_Mo_begin_66 (by decide) (fun z32 hz32 => ?_)
      refine sn_iconst hx hb d_Mo_begin_67 (by decide) (fun z33 hz33 => ?_)
      refine sv_iastr hx hb hK (sh_in adM_map hAC) hI 3 kM_3 (by omega) (by omega) (by omega) (by omega) pM_3 d_Mo_begin_68 (fun H locs hI => ?_)
      refine lv_aload_n hx hb d_Mo_begin_69 rfl (lv_at hl 1 rfl) ?_
      refine sv_getr (C := "StoryMachineModel") (T := T_Mo) (N := 51) hx hb hts in_Mo hown hK hI 0 kM_0 rfl 6 (by decide) (hts _ mw_1069) rfl d_Mo_begin_70 ?_
      refine sn_iconst hx hb d_Mo_begin_73 (by decide) (fun z34 hz34 => ?_)
      refine sn_iconst hx hb d_Mo_begin_74 (by decide) (fun z35 hz35 => ?_)
      refine sv_iastr hx hb hK (sh_in adM_map hAC) hI 4 kM_4 (by omega) (by omega) (by omega) (by omega) pM_4 d_Mo_begin_75 (fun H locs hI => ?_)
      refine lv_aload_n hx hb d_Mo_begin_76 rfl (lv_at hl 1 rfl) ?_
      refine sn_iconst hx hb d_Mo_begin_77 (by decide) (fun z36 hz36 => ?_)
      refine sv_put (C := "StoryMachineModel") (T := T_Mo) (N := 51) (ty := .int) hx hb hts in_Mo t_Mo tk_Mo nm_Mo hown hK (sh_in adM_map hAC) hI 0 kM_0 rfl 30 (by decide) (hts _ mw_1093) rfl (by decide +kernel) rfl rfl (Nat.le_of_ble_eq_true rfl) (by omega) (by omega) pM_0_30 d_Mo_begin_78 (fun H locs hI => ?_)
      refine lv_aload_n hx hb d_Mo_begin_81 rfl (lv_at hl 1 rfl) ?_
      refine sn_iconst hx hb d_Mo_begin_82 (by decide) (fun z37 hz37 => ?_)
      refine sv_put (C := "StoryMachineModel") (T := T_Mo) (N := 51) (ty := .int) hx hb hts in_Mo t_Mo tk_Mo nm_Mo hown hK (sh_in adM_map hAC) hI 0 kM_0 rfl 31 (by decide) (hts _ mw_1094) rfl (by decide +kernel) rfl rfl (Nat.le_of_ble_eq_true rfl) (Int.le_refl _) (Int.le_refl _) pM_0_31 d_Mo_begin_83 (fun H locs hI => ?_)
      refine lv_aload_n hx hb d_Mo_begin_86 rfl (lv_at hl 1 rfl) ?_
      refine sn_iconst hx hb d_Mo_begin_87 (by decide) (fun z38 hz38 => ?_)
      refine sv_put (C := "StoryMachineModel") (T := T_Mo) (N := 51) (ty := .int) hx hb hts in_Mo t_Mo tk_Mo nm_Mo hown hK (sh_in adM_map hAC) hI 0 kM_0 rfl 34 (by decide) (hts _ mw_1097) rfl (by decide +kernel) rfl rfl (Nat.le_of_ble_eq_true rfl) (Int.le_refl _) (Int.le_refl _) pM_0_34 d_Mo_begin_88 (fun H locs hI => ?_)
      refine lv_aload_n hx hb d_Mo_begin_91 rfl (lv_at hl 1 rfl) ?_
      refine sn_iconst hx hb d_Mo_begin_92 (by decide) (fun z39 hz39 => ?_)
      refine sv_put (C := "StoryMachineModel") (T := T_Mo) (N := 51) (ty := .boolean) hx hb hts in_Mo t_Mo tk_Mo nm_Mo hown hK (sh_in adM_map hAC) hI 0 kM_0 rfl 33 (by decide) (hts _ mw_1096) rfl (by decide +kernel) (sn_bool (by omega) (by omega)).1 (sn_bool (by omega) (by omega)).2 (Nat.le_of_ble_eq_true rfl) (by omega) (by omega) pM_0_33 d_Mo_begin_93 (fun H locs hI => ?_)
      refine lv_aload_n hx hb d_Mo_begin_96 rfl (lv_at hl 1 rfl) ?_
      refine sn_iconst hx hb d_Mo_begin_97 (by decide) (fun z40 hz40 => ?_)
      refine sv_put (C := "StoryMachineModel") (T := T_Mo) (N := 51) (ty := .boolean) hx hb hts in_Mo t_Mo tk_Mo nm_Mo hown hK (sh_in adM_map hAC) hI 0 kM_0 rfl 10 (by decide) (hts _ mw_1073) rfl (by decide +kernel) (sn_bool (by omega) (by omega)).1 (sn_bool (by omega) (by omega)).2 (Nat.le_of_ble_eq_true rfl) (by omega) (by omega) pM_0_10 d_Mo_begin_98 (fun H locs hI => ?_)
      refine lv_aload_n hx hb d_Mo_begin_101 rfl (lv_at hl 1 rfl) ?_
      refine sn_iconst hx hb d_Mo_begin_102 (by decide) (fun z41 hz41 => ?_)
      refine sv_put (C := "StoryMachineModel") (T := T_Mo) (N := 51) (ty := .int) hx hb hts in_Mo t_Mo tk_Mo nm_Mo hown hK (sh_in adM_map hAC) hI 0 kM_0 rfl 24 (by decide) (hts _ mw_1087) rfl (by decide +kernel) rfl rfl (Nat.le_of_ble_eq_true rfl) (by omega) (by omega) pM_0_24 d_Mo_begin_103 (fun H locs hI => ?_)
      refine lv_aload_n hx hb d_Mo_begin_106 rfl (lv_at hl 1 rfl) ?_
      refine sn_iconst hx hb d_Mo_begin_107 (by decide) (fun z42 hz42 => ?_)
      refine sv_put (C := "StoryMachineModel") (T := T_Mo) (N := 51) (ty := .int) hx hb hts in_Mo t_Mo tk_Mo nm_Mo hown hK (sh_in adM_map hAC) hI 0 kM_0 rfl 29 (by decide) (hts _ mw_1092) rfl (by decide +kernel) rfl rfl (Nat.le_of_ble_eq_true rfl) (by omega) (by omega) pM_0_29 d_Mo_begin_108 (fun H locs hI => ?_)
      have ho43 : okM z26.toInt tr z31.toInt z30.toInt co z37.toInt lt z38.toInt mf := ⟨⟨by omega, by omega⟩, hok.2.1, ⟨by omega, by omega⟩, ⟨by omega, by omega⟩, hok.2.2.2.2.1, ⟨by omega, by omega⟩, hok.2.2.2.2.2.2.1, ⟨by omega, by omega⟩, hok.2.2.2.2.2.2.2.2⟩
      subst hZ
      exact tz_ret (W.vret hx hb hr (fun t ht hW => ⟨⟨fun v9 hv9 => by cases hv9; exact (⟨z26.toInt, z31.toInt, z30.toInt, z37.toInt, z38.toInt, rfl, ho43, by omega, by rw [ht]; exact hI.1⟩), fun x9 hx9 => (by cases hx9)⟩, hI.2.F ht⟩) hI.2.2.2 d_Mo_begin_111)
    · omega
  · refine sn_iconst hx hb d_Mo_begin_26 (by decide) (fun z44 hz44 => ?_)
    refine lv_goto (tgt := 31) hx hb d_Mo_begin_27 (by decide) ?_
    refine sv_put (C := "StoryMachineModel") (T := T_Mo) (N := 51) (ty := .int) hx hb hts in_Mo t_Mo tk_Mo nm_Mo hown hK (sh_in adM_map hAC) hI 0 kM_0 rfl 0 (by decide) (hts _ mw_1063) rfl (by decide +kernel) rfl rfl (Nat.le_of_ble_eq_true rfl) (Int.le_refl _) (Int.le_refl _) pM_0_0 d_Mo_begin_31 (fun H locs hI => ?_)
    refine lv_aload_n hx hb d_Mo_begin_34 rfl (lv_at hl 1 rfl) ?_
    refine sv_gete (C := "StoryMachineModel") (T := T_Mo) (N := 51) hx hb hts in_Mo hown hK hI 0 kM_0 rfl 0 (by decide) (hts _ mw_1063) rfl d_Mo_begin_35 (fun z45 hz45 => ?_)
    refine sn_if_le (tgt := 42) hx hb d_Mo_begin_38 (by decide) (fun b46 => ?_) (fun b46 => ?_)
    · omega
    · have ho47 : okM z44.toInt tr dp zi co sh lt ts mf := ⟨⟨by omega, by omega⟩, hok.2.1, hok.2.2.1, hok.2.2.2.1, hok.2.2.2.2.1, hok.2.2.2.2.2.1, hok.2.2.2.2.2.2.1, hok.2.2.2.2.2.2.2.1, hok.2.2.2.2.2.2.2.2⟩
      subst hZ
      exact tz_ret (W.vret hx hb hr (fun t ht hW => ⟨⟨fun v9 hv9 => by cases hv9; exact (⟨z44.toInt, dp, zi, sh, ts, rfl, ho47, by omega, by rw [ht]; exact hI.1⟩), fun x9 hx9 => (by cases hx9)⟩, hI.2.F ht⟩) hI.2.2.2 d_Mo_begin_41)
abbrev q_Mo_type (dC : Nat → ClassId) (dI : Nat → Nat → Nat) (cI cJ : ClassId) (a : Nat → Nat) (th tr dp zi co sh lt ts : Int) (mf : Nat → Int32) (y1 : Int64) (x3 : Int32) : Outcome → State → Prop := fun o t => (∀ v, o = .returned v → ((∃ (th_ ts_ : Int), v = none ∧ okM th_ tr dp zi co sh lt ts_ mf ∧ sh_I (dC, dI) vcl cI cJ (gsM a th_ tr dp zi co sh lt ts_ mf) t.heap))) ∧ (∀ x, o = .threw x → (False))
def rm_Mo_type : Room := { frames := 1, cells := 0, slots := 0, locals := 20 }
set_option maxHeartbeats 4000000 in
set_option maxRecDepth 100000 in
theorem c_Mo_type (l : Launch) (hfl : l.flags = pinnedFlags ++ [noTraceFlag]) (dC : Nat → ClassId) (dI : Nat → Nat → Nat) (cI cJ : ClassId) (a : Nat → Nat) (sz : Nat) (th tr dp zi co sh lt ts : Int) (mf : Nat → Int32) (y1 : Int64) (x3 : Int32) (hok : okM th tr dp zi co sh lt ts mf) : tz_Met l ⟨"StoryMachineModel", "type", "(JI)V"⟩ tw_tbl rm_Mo_type (tzP (dC, dI) vcl cI cJ (gsM a th tr dp zi co sh lt ts mf) a (adM a) [.ref (a 0), .long y1, .int x3] sz) (tq_Q (q_Mo_type dC dI cI cJ a th tr dp zi co sh lt ts mf y1 x3) (ga (adM a) sz)) 0 0 0 0 (ga (adM a) sz) := by
  refine tz_ofW (cc := prog_13_method_77_code) (maxL := 8) (ret := none) (by decide) (tx_isM mw_1516) ?_
  intro p e s m args below meth c s₁ B hml hv
  obtain ⟨rfl, hsz, hI0, hK, hst0⟩ := hv
  have hx := B.exec
  have hb := B.bytes
  have hr := B.returns
  have hts := atoms_spec (ws := tw_tbl) B.pre
  have hown : s.vm.findClass "StoryMachineModel" = some m.cls := findClass_of_methodNamed B.named
  have hlocks := B.notSynchronized
  subst hsz
  have hst := fun (H : Heap) (locs : List Loc) (hS : va_S (ga (adM a) s.heap.size) s.heap H locs) (U : State) (hU : U.heap = H) (hW : s.WarmedH U.vm) => zS_all adM_map hI0 hst0 hS hU hW
  have hAC : ∀ q ∈ adM a, ga (adM a) s.heap.size q := fun q h => Or.inl h
  have hA0 : ∀ q, s.heap.size ≤ q → ga (adM a) s.heap.size q := fun q h => Or.inr h
  have hI : sI (dC, dI) vcl cI cJ (gsM a th tr dp zi co sh lt ts mf) (ga (adM a) s.heap.size) s.heap s.heap [] := ⟨hI0, va_S.rf⟩
  clear hI0 hst0
  have hl := lv_entry ([.ref (a 0), .long y1, .int x3]) (n := 8) (Nat.le_of_ble_eq_true rfl)
  rw [lg_entry_eq]
  generalize (lg_sl ([.ref (a 0), .long y1, .int x3]) ++ List.replicate (8 - (lg_sl ([.ref (a 0), .long y1, .int x3])).length) Slot.unset).toArray = ls at hl ⊢
  have hl : lv_has ls 8 [(0, .ref (a 0)), (1, .long y1), (3, .int x3)] := hl
  generalize hZ : tz_MQ below (tq_Q (q_Mo_type dC dI cI cJ a th tr dp zi co sh lt ts mf y1 x3) (ga (adM a) s.heap.size)) ([.ref (a 0), .long y1, .int x3] : List Value).toArray s 0 0 0 0 (ga (adM a) s.heap.size) = Z
  obtain ⟨A, hAe⟩ : ∃ A, A = ga (adM a) s.heap.size := ⟨_, rfl⟩
  rw [← hAe] at hst hAC hA0 hI hZ
  refine sv_start hI (fun H locs hI => ?_)
  obtain ⟨⟨o1, o2⟩, ⟨o3, o4⟩, ⟨o5, o6⟩, ⟨o7, o8⟩, ⟨o9, o10⟩, ⟨o11, o12⟩, ⟨o13, o14⟩, ⟨o15, o16⟩, -⟩ := id hok
  have gx3 := sn_rng x3
  have j98z : ∀ (n : Nat) (H : Heap) (locs : List Loc) (ls : Array Slot) (v98z_4 v98z_5 : Int32) (v98z_1 : Int64) (t98z_th t98z_ts : Int), sI (dC, dI) vcl cI cJ (gsM a t98z_th tr dp zi co sh lt t98z_ts mf) A s.heap H locs → okM t98z_th tr dp zi co sh lt t98z_ts mf → 1 ≤ v98z_4.toInt → v98z_4.toInt ≤ 1 → (-2147483648) ≤ v98z_5.toInt → v98z_5.toInt ≤ 2147483647 → 0 ≤ t98z_th → t98z_th ≤ 0 → t98z_ts + v98z_5.toInt + 1 ≤ 24 → lv_has ls 8 [(0, .ref (a 0)), (1, .long v98z_1), (3, .int x3), (4, .int v98z_4), (5, .int v98z_5)] → v98z_5.toInt - (-2147483648) < (n : Int) → W p l e (headSpec tw_tbl rm_Mo_type).room s m ([.ref (a 0), .long y1, .int x3] : List Value).toArray below meth c H locs 0 0 Z (F0 m 98 ls []) := by
    intro n
    induction n with
    | zero => intro H locs ls v98z_4 v98z_5 v98z_1 t98z_th t98z_ts hI hok g98_0 g98_1 g98_2 g98_3 g98_4 g98_5 g98_6 hl hme; exfalso; obtain ⟨⟨o17, o18⟩, ⟨o19, o20⟩, ⟨o21, o22⟩, ⟨o23, o24⟩, ⟨o25, o26⟩, ⟨o27, o28⟩, ⟨o29, o30⟩, ⟨o31, o32⟩, -⟩ := id hok; omega
    | succ n ih =>
      intro H locs ls v98z_4 v98z_5 v98z_1 t98z_th t98z_ts hI hok g98_0 g98_1 g98_2 g98_3 g98_4 g98_5 g98_6 hl hme
      obtain ⟨⟨o33, o34⟩, ⟨o35, o36⟩, ⟨o37, o38⟩, ⟨o39, o40⟩, ⟨o41, o42⟩, ⟨o43, o44⟩, ⟨o45, o46⟩, ⟨o47, o48⟩, -⟩ := id hok
      refine lv_iload hx hb d_Mo_type_98 (lv_at hl 4 rfl) ?_
      refine sn_if_lt (tgt := 147) hx hb d_Mo_type_100 (by decide) (fun b49 => ?_) (fun b49 => ?_)
      · subst hZ
        exact tz_ret (W.vret hx hb hr (fun t ht hW => ⟨⟨fun v9 hv9 => by cases hv9; exact (⟨t98z_th, t98z_ts, rfl, hok, by rw [ht]; exact hI.1⟩), fun x9 hx9 => (by cases hx9)⟩, hI.2.F ht⟩) hI.2.2.2 d_Mo_type_147)
      · refine lv_aload_n hx hb d_Mo_type_103 rfl (lv_at hl 0 rfl) ?_
        refine sv_gete (C := "StoryMachineModel") (T := T_Mo) (N := 51) hx hb hts in_Mo hown hK hI 0 kM_0 rfl 0 (by decide) (hts _ mw_1063) rfl d_Mo_type_104 (fun z50 hz50 => ?_)
        refine sn_if_ne (tgt := 147) hx hb d_Mo_type_107 (by decide) (fun b51 => ?_) (fun b51 => ?_)
        · omega
        · refine lv_aload_n hx hb d_Mo_type_110 rfl (lv_at hl 0 rfl) ?_
          refine sv_getr (C := "StoryMachineModel") (T := T_Mo) (N := 51) hx hb hts in_Mo hown hK hI 0 kM_0 rfl 35 (by decide) (hts _ mw_1098) rfl d_Mo_type_111 ?_
          refine lv_aload_n hx hb d_Mo_type_114 rfl (lv_at hl 0 rfl) ?_
          refine sv_gete (C := "StoryMachineModel") (T := T_Mo) (N := 51) hx hb hts in_Mo hown hK hI 0 kM_0 rfl 34 (by decide) (hts _ mw_1097) rfl d_Mo_type_115 (fun z52 hz52 => ?_)
          refine lv_lload_n hx hb d_Mo_type_118 rfl (lv_at hl 1 rfl) ?_
          refine sn_bipush hx hb d_Mo_type_119 (by decide) (fun z53 hz53 => ?_)
          refine lv_iload hx hb d_Mo_type_121 (lv_at hl 4 rfl) ?_
          refine sn_imulT hx hb d_Mo_type_123 (fun z54 hz54a hz54b => ?_)
          refine lv_lshr hx hb d_Mo_type_124 rfl ?_
          refine lv_topl (fun y55 hy55 => ?_)
          refine lv_ldc2 hx hb hown (hts _ mw_1504) d_Mo_type_125 ?_
          refine lv_topl (fun c255_56 hc255_56 => ?_)
          refine sn_land hx hb d_Mo_type_128 hc255_56 (fun y57 hy57a hy57b => ?_)
          refine sn_l2i hx hb d_Mo_type_129 (by omega) (by omega) (fun z58 hz58 => ?_)
          refine sv_iastr hx hb hK (sh_in adM_map hAC) hI 16 kM_16 (by omega) (by omega) (by omega) (by omega) pM_16 d_Mo_type_130 (fun H locs hI => ?_)
          refine lv_aload_n hx hb d_Mo_type_131 rfl (lv_at hl 0 rfl) ?_
          refine lv_dup hx hb d_Mo_type_132 rfl ?_
          refine sv_gete (C := "StoryMachineModel") (T := T_Mo) (N := 51) hx hb hts in_Mo hown hK hI 0 kM_0 rfl 34 (by decide) (hts _ mw_1097) rfl d_Mo_type_133 (fun z59 hz59 => ?_)
          refine sn_iconst hx hb d_Mo_type_136 (by decide) (fun z60 hz60 => ?_)
          refine sn_iadd hx hb d_Mo_type_137 (by omega) (by omega) (fun z61 hz61 => ?_)
          refine sv_put (C := "StoryMachineModel") (T := T_Mo) (N := 51) (ty := .int) hx hb hts in_Mo t_Mo tk_Mo nm_Mo hown hK (sh_in adM_map hAC) hI 0 kM_0 rfl 34 (by decide) (hts _ mw_1097) rfl (by decide +kernel) rfl rfl (Nat.le_of_ble_eq_true rfl) (Int.le_refl _) (Int.le_refl _) pM_0_34 d_Mo_type_138 (fun H locs hI => ?_)
          refine sn_iinc (k := 4) hx hb d_Mo_type_141 hl rfl (by decide) (by decide) (by omega) (by omega) (fun ls z62 hz62 hl => ?_)
          have hl : lv_has ls 8 [(5, .int z62), (0, .ref (a 0)), (1, .long v98z_1), (3, .int x3), (4, .int v98z_4)] := hl
          refine lv_goto (tgt := 98) hx hb d_Mo_type_144 (by decide) ?_
          have ho63 : okM t98z_th tr dp zi co sh lt z61.toInt mf := ⟨hok.1, hok.2.1, hok.2.2.1, hok.2.2.2.1, hok.2.2.2.2.1, hok.2.2.2.2.2.1, hok.2.2.2.2.2.2.1, ⟨by omega, by omega⟩, hok.2.2.2.2.2.2.2.2⟩
          exact ih _ _ _ v98z_4 z62 v98z_1 t98z_th z61.toInt hI ho63 (by omega) (by omega) (by omega) (by omega) (by omega) (by omega) (by omega) (lv_sub hl [1, 2, 3, 4, 0] rfl) (by omega)
  have j98p : ∀ (H : Heap) (locs : List Loc) (ls : Array Slot) (v98p_4 v98p_5 : Int32) (v98p_1 : Int64) (t98p_th : Int), sI (dC, dI) vcl cI cJ (gsM a t98p_th tr dp zi co sh lt ts mf) A s.heap H locs → okM t98p_th tr dp zi co sh lt ts mf → 0 ≤ v98p_4.toInt → v98p_4.toInt ≤ 1 → (-2147483648) ≤ v98p_5.toInt → v98p_5.toInt ≤ 2147483647 → 1 ≤ t98p_th → t98p_th ≤ 2 → lv_has ls 8 [(0, .ref (a 0)), (1, .long v98p_1), (3, .int x3), (4, .int v98p_4), (5, .int v98p_5)] → W p l e (headSpec tw_tbl rm_Mo_type).room s m ([.ref (a 0), .long y1, .int x3] : List Value).toArray below meth c H locs 0 0 Z (F0 m 98 ls []) := by
    intro H locs ls v98p_4 v98p_5 v98p_1 t98p_th hI hok g98_0 g98_1 g98_2 g98_3 g98_4 g98_5 hl
    obtain ⟨⟨o64, o65⟩, ⟨o66, o67⟩, ⟨o68, o69⟩, ⟨o70, o71⟩, ⟨o72, o73⟩, ⟨o74, o75⟩, ⟨o76, o77⟩, ⟨o78, o79⟩, -⟩ := id hok
    refine lv_iload hx hb d_Mo_type_98 (lv_at hl 4 rfl) ?_
    refine sn_if_lt (tgt := 147) hx hb d_Mo_type_100 (by decide) (fun b80 => ?_) (fun b80 => ?_)
    · subst hZ
      exact tz_ret (W.vret hx hb hr (fun t ht hW => ⟨⟨fun v9 hv9 => by cases hv9; exact (⟨t98p_th, ts, rfl, hok, by rw [ht]; exact hI.1⟩), fun x9 hx9 => (by cases hx9)⟩, hI.2.F ht⟩) hI.2.2.2 d_Mo_type_147)
    · refine lv_aload_n hx hb d_Mo_type_103 rfl (lv_at hl 0 rfl) ?_
      refine sv_gete (C := "StoryMachineModel") (T := T_Mo) (N := 51) hx hb hts in_Mo hown hK hI 0 kM_0 rfl 0 (by decide) (hts _ mw_1063) rfl d_Mo_type_104 (fun z81 hz81 => ?_)
      refine sn_if_ne (tgt := 147) hx hb d_Mo_type_107 (by decide) (fun b82 => ?_) (fun b82 => ?_)
      · subst hZ
        exact tz_ret (W.vret hx hb hr (fun t ht hW => ⟨⟨fun v9 hv9 => by cases hv9; exact (⟨t98p_th, ts, rfl, hok, by rw [ht]; exact hI.1⟩), fun x9 hx9 => (by cases hx9)⟩, hI.2.F ht⟩) hI.2.2.2 d_Mo_type_147)
      · omega
  have j64u : ∀ (H : Heap) (locs : List Loc) (ls : Array Slot) (v64u_4 v64u_5 : Int32) (v64u_1 : Int64), sI (dC, dI) vcl cI cJ (gsM a th tr dp zi co sh lt ts mf) A s.heap H locs → okM th tr dp zi co sh lt ts mf → 0 ≤ v64u_4.toInt → v64u_4.toInt ≤ 1 → (-2147483646) ≤ v64u_5.toInt → v64u_5.toInt ≤ 2147483647 → lv_has ls 8 [(0, .ref (a 0)), (1, .long v64u_1), (3, .int x3), (4, .int v64u_4), (5, .int v64u_5)] → W p l e (headSpec tw_tbl rm_Mo_type).room s m ([.ref (a 0), .long y1, .int x3] : List Value).toArray below meth c H locs 0 0 Z (F0 m 64 ls []) := by
    intro H locs ls v64u_4 v64u_5 v64u_1 hI hok g64_0 g64_1 g64_2 g64_3 hl
    obtain ⟨⟨o83, o84⟩, ⟨o85, o86⟩, ⟨o87, o88⟩, ⟨o89, o90⟩, ⟨o91, o92⟩, ⟨o93, o94⟩, ⟨o95, o96⟩, ⟨o97, o98⟩, -⟩ := id hok
    refine lv_aload_n hx hb d_Mo_type_64 rfl (lv_at hl 0 rfl) ?_
    refine lv_iload hx hb d_Mo_type_65 (lv_at hl 3 rfl) ?_
    refine sn_if_ne (tgt := 74) hx hb d_Mo_type_67 (by decide) (fun b99 => ?_) (fun b99 => ?_)
    · refine lv_aload_n hx hb d_Mo_type_74 rfl (lv_at hl 0 rfl) ?_
      refine sv_gete (C := "StoryMachineModel") (T := T_Mo) (N := 51) hx hb hts in_Mo hown hK hI 0 kM_0 rfl 34 (by decide) (hts _ mw_1097) rfl d_Mo_type_75 (fun z100 hz100 => ?_)
      refine lv_iload_n hx hb d_Mo_type_78 rfl (lv_at hl 2 rfl) ?_
      refine sn_iaddT hx hb d_Mo_type_79 (fun z101 hz101a hz101b => ?_)
      refine sn_bipush hx hb d_Mo_type_80 (by decide) (fun z102 hz102 => ?_)
      refine sn_icmp_le (tgt := 89) hx hb d_Mo_type_82 (by decide) (fun b103 => ?_) (fun b103 => ?_)
      · refine sn_iconst hx hb d_Mo_type_89 (by decide) (fun z104 hz104 => ?_)
        refine sv_put (C := "StoryMachineModel") (T := T_Mo) (N := 51) (ty := .int) hx hb hts in_Mo t_Mo tk_Mo nm_Mo hown hK (sh_in adM_map hAC) hI 0 kM_0 rfl 0 (by decide) (hts _ mw_1063) rfl (by decide +kernel) rfl rfl (Nat.le_of_ble_eq_true rfl) (Int.le_refl _) (Int.le_refl _) pM_0_0 d_Mo_type_90 (fun H locs hI => ?_)
        refine lv_iload_n hx hb d_Mo_type_93 rfl (lv_at hl 2 rfl) ?_
        refine sn_iconst hx hb d_Mo_type_94 (by decide) (fun z105 hz105 => ?_)
        refine sn_isubT hx hb d_Mo_type_95 (fun z106 hz106a hz106b => ?_)
        refine lv_istore (lv' := [(5, .int z106), (0, .ref (a 0)), (1, .long v64u_1), (3, .int x3), (4, .int v64u_4)]) hx hb d_Mo_type_96 hl (by decide) rfl (fun ls hl => ?_)
        have ho107 : okM z104.toInt tr dp zi co sh lt ts mf := ⟨⟨by omega, by omega⟩, hok.2.1, hok.2.2.1, hok.2.2.2.1, hok.2.2.2.2.1, hok.2.2.2.2.2.1, hok.2.2.2.2.2.2.1, hok.2.2.2.2.2.2.2.1, hok.2.2.2.2.2.2.2.2⟩
        exact j98z 4294967296 _ _ _ v64u_4 z106 v64u_1 z104.toInt ts hI ho107 (by omega) (by omega) (by omega) (by omega) (by omega) (by omega) (by omega) (lv_sub hl [1, 2, 3, 4, 0] rfl) (by omega)
      · refine sn_iconst hx hb d_Mo_type_85 (by decide) (fun z108 hz108 => ?_)
        refine lv_goto (tgt := 90) hx hb d_Mo_type_86 (by decide) ?_
        refine sv_put (C := "StoryMachineModel") (T := T_Mo) (N := 51) (ty := .int) hx hb hts in_Mo t_Mo tk_Mo nm_Mo hown hK (sh_in adM_map hAC) hI 0 kM_0 rfl 0 (by decide) (hts _ mw_1063) rfl (by decide +kernel) rfl rfl (Nat.le_of_ble_eq_true rfl) (Int.le_refl _) (Int.le_refl _) pM_0_0 d_Mo_type_90 (fun H locs hI => ?_)
        refine lv_iload_n hx hb d_Mo_type_93 rfl (lv_at hl 2 rfl) ?_
        refine sn_iconst hx hb d_Mo_type_94 (by decide) (fun z109 hz109 => ?_)
        refine sn_isubT hx hb d_Mo_type_95 (fun z110 hz110a hz110b => ?_)
        refine lv_istore (lv' := [(5, .int z110), (0, .ref (a 0)), (1, .long v64u_1), (3, .int x3), (4, .int v64u_4)]) hx hb d_Mo_type_96 hl (by decide) rfl (fun ls hl => ?_)
        have ho111 : okM z108.toInt tr dp zi co sh lt ts mf := ⟨⟨by omega, by omega⟩, hok.2.1, hok.2.2.1, hok.2.2.2.1, hok.2.2.2.2.1, hok.2.2.2.2.2.1, hok.2.2.2.2.2.2.1, hok.2.2.2.2.2.2.2.1, hok.2.2.2.2.2.2.2.2⟩
        exact j98p _ _ _ v64u_4 z110 v64u_1 z108.toInt hI ho111 (by omega) (by omega) (by omega) (by omega) (by omega) (by omega) (lv_sub hl [1, 2, 3, 4, 0] rfl)
    · refine sn_iconst hx hb d_Mo_type_70 (by decide) (fun z112 hz112 => ?_)
      refine lv_goto (tgt := 90) hx hb d_Mo_type_71 (by decide) ?_
      refine sv_put (C := "StoryMachineModel") (T := T_Mo) (N := 51) (ty := .int) hx hb hts in_Mo t_Mo tk_Mo nm_Mo hown hK (sh_in adM_map hAC) hI 0 kM_0 rfl 0 (by decide) (hts _ mw_1063) rfl (by decide +kernel) rfl rfl (Nat.le_of_ble_eq_true rfl) (Int.le_refl _) (Int.le_refl _) pM_0_0 d_Mo_type_90 (fun H locs hI => ?_)
      refine lv_iload_n hx hb d_Mo_type_93 rfl (lv_at hl 2 rfl) ?_
      refine sn_iconst hx hb d_Mo_type_94 (by decide) (fun z113 hz113 => ?_)
      refine sn_isubT hx hb d_Mo_type_95 (fun z114 hz114a hz114b => ?_)
      refine lv_istore (lv' := [(5, .int z114), (0, .ref (a 0)), (1, .long v64u_1), (3, .int x3), (4, .int v64u_4)]) hx hb d_Mo_type_96 hl (by decide) rfl (fun ls hl => ?_)
      have ho115 : okM z112.toInt tr dp zi co sh lt ts mf := ⟨⟨by omega, by omega⟩, hok.2.1, hok.2.2.1, hok.2.2.2.1, hok.2.2.2.2.1, hok.2.2.2.2.2.1, hok.2.2.2.2.2.2.1, hok.2.2.2.2.2.2.2.1, hok.2.2.2.2.2.2.2.2⟩
      exact j98p _ _ _ v64u_4 z114 v64u_1 z112.toInt hI ho115 (by omega) (by omega) (by omega) (by omega) (by omega) (by omega) (lv_sub hl [1, 2, 3, 4, 0] rfl)
  have j9u : ∀ (n : Nat) (H : Heap) (locs : List Loc) (ls : Array Slot) (v9u_4 v9u_5 : Int32) (v9u_1 : Int64), sI (dC, dI) vcl cI cJ (gsM a th tr dp zi co sh lt ts mf) A s.heap H locs → okM th tr dp zi co sh lt ts mf → 0 ≤ v9u_4.toInt → v9u_4.toInt ≤ 1 → (-2147483645) ≤ v9u_5.toInt → v9u_5.toInt ≤ 2147483647 → lv_has ls 8 [(0, .ref (a 0)), (1, .long v9u_1), (3, .int x3), (4, .int v9u_4), (5, .int v9u_5)] → 2147483647 - v9u_5.toInt < (n : Int) → W p l e (headSpec tw_tbl rm_Mo_type).room s m ([.ref (a 0), .long y1, .int x3] : List Value).toArray below meth c H locs 0 0 Z (F0 m 9 ls []) := by
    intro n
    induction n with
    | zero => intro H locs ls v9u_4 v9u_5 v9u_1 hI hok g9_0 g9_1 g9_2 g9_3 hl hme; exfalso; obtain ⟨⟨o116, o117⟩, ⟨o118, o119⟩, ⟨o120, o121⟩, ⟨o122, o123⟩, ⟨o124, o125⟩, ⟨o126, o127⟩, ⟨o128, o129⟩, ⟨o130, o131⟩, -⟩ := id hok; omega
    | succ n ih =>
      intro H locs ls v9u_4 v9u_5 v9u_1 hI hok g9_0 g9_1 g9_2 g9_3 hl hme
      obtain ⟨⟨o132, o133⟩, ⟨o134, o135⟩, ⟨o136, o137⟩, ⟨o138, o139⟩, ⟨o140, o141⟩, ⟨o142, o143⟩, ⟨o144, o145⟩, ⟨o146, o147⟩, -⟩ := id hok
      have j55u : ∀ (H : Heap) (locs : List Loc) (ls : Array Slot) (v55u_6 : Int64), sI (dC, dI) vcl cI cJ (gsM a th tr dp zi co sh lt ts mf) A s.heap H locs → okM th tr dp zi co sh lt ts mf → 1 ≤ v9u_4.toInt → v9u_5.toInt ≤ 2147483646 → (-2147483645) ≤ x3.toInt → lv_has ls 8 [(0, .ref (a 0)), (1, .long v9u_1), (3, .int x3), (4, .int v9u_4), (5, .int v9u_5), (6, .long v55u_6)] → W p l e (headSpec tw_tbl rm_Mo_type).room s m ([.ref (a 0), .long y1, .int x3] : List Value).toArray below meth c H locs 0 0 Z (F0 m 55 ls []) := by
        intro H locs ls v55u_6 hI hok g55_0 g55_1 g55_2 hl
        obtain ⟨⟨o148, o149⟩, ⟨o150, o151⟩, ⟨o152, o153⟩, ⟨o154, o155⟩, ⟨o156, o157⟩, ⟨o158, o159⟩, ⟨o160, o161⟩, ⟨o162, o163⟩, -⟩ := id hok
        refine sn_iconst hx hb d_Mo_type_55 (by decide) (fun z164 hz164 => ?_)
        refine lv_istore (lv' := [(4, .int z164), (0, .ref (a 0)), (1, .long v9u_1), (3, .int x3), (5, .int v9u_5), (6, .long v55u_6)]) hx hb d_Mo_type_56 hl (by decide) rfl (fun ls hl => ?_)
        refine sn_iinc (k := 4) hx hb d_Mo_type_58 hl rfl (by decide) (by decide) (by omega) (by omega) (fun ls z165 hz165 hl => ?_)
        have hl : lv_has ls 8 [(5, .int z165), (4, .int z164), (0, .ref (a 0)), (1, .long v9u_1), (3, .int x3), (6, .long v55u_6)] := hl
        refine lv_goto (tgt := 9) hx hb d_Mo_type_61 (by decide) ?_
        exact ih _ _ _ z164 z165 v9u_1 hI hok (by omega) (by omega) (by omega) (by omega) (lv_sub hl [2, 3, 4, 1, 0] rfl) (by omega)
      refine lv_iload hx hb d_Mo_type_9 (lv_at hl 4 rfl) ?_
      refine lv_iload_n hx hb d_Mo_type_11 rfl (lv_at hl 2 rfl) ?_
      refine sn_icmp_ge (tgt := 64) hx hb d_Mo_type_12 (by decide) (fun b166 => ?_) (fun b166 => ?_)
      · exact j64u _ _ _ v9u_4 v9u_5 v9u_1 hI hok (by omega) (by omega) (by omega) (by omega) (lv_sub hl [0, 1, 2, 3, 4] rfl)
      · refine lv_iload hx hb d_Mo_type_15 (lv_at hl 3 rfl) ?_
        refine sn_if_eq (tgt := 64) hx hb d_Mo_type_17 (by decide) (fun b167 => ?_) (fun b167 => ?_)
        · exact j64u _ _ _ v9u_4 v9u_5 v9u_1 hI hok (by omega) (by omega) (by omega) (by omega) (lv_sub hl [0, 1, 2, 3, 4] rfl)
        · refine lv_lload_n hx hb d_Mo_type_20 rfl (lv_at hl 1 rfl) ?_
          refine sn_bipush hx hb d_Mo_type_21 (by decide) (fun z168 hz168 => ?_)
          refine lv_iload hx hb d_Mo_type_23 (lv_at hl 4 rfl) ?_
          refine sn_imulT hx hb d_Mo_type_25 (fun z169 hz169a hz169b => ?_)
          refine lv_lshr hx hb d_Mo_type_26 rfl ?_
          refine lv_topl (fun y170 hy170 => ?_)
          refine lv_ldc2 hx hb hown (hts _ mw_1504) d_Mo_type_27 ?_
          refine lv_topl (fun c255_171 hc255_171 => ?_)
          refine sn_land hx hb d_Mo_type_30 hc255_171 (fun y172 hy172a hy172b => ?_)
          refine lv_lstore (lv' := [(6, .long y172), (0, .ref (a 0)), (1, .long v9u_1), (3, .int x3), (4, .int v9u_4), (5, .int v9u_5)]) hx hb d_Mo_type_31 hl (by decide) rfl (fun ls hl => ?_)
          refine lv_lload hx hb d_Mo_type_33 (lv_at hl 0 rfl) ?_
          refine lv_ldc2 hx hb hown (hts _ mw_1517) d_Mo_type_35 ?_
          refine lv_topl (fun c32_173 hc32_173 => ?_)
          refine W.lcmp hx hb d_Mo_type_38 ?_
          refine sn_topi (fun z174 hz174a hz174b => ?_)
          refine sn_if_lt (tgt := 55) hx hb d_Mo_type_39 (by decide) (fun b175 => ?_) (fun b175 => ?_)
          · exact j55u _ _ _ y172 hI hok (by omega) (by omega) (by omega) (lv_sub hl [1, 2, 3, 4, 5, 0] rfl)
          · refine lv_lload hx hb d_Mo_type_42 (lv_at hl 0 rfl) ?_
            refine lv_ldc2 hx hb hown (hts _ mw_1518) d_Mo_type_44 ?_
            refine lv_topl (fun c126_176 hc126_176 => ?_)
            refine W.lcmp hx hb d_Mo_type_47 ?_
            refine sn_topi (fun z177 hz177a hz177b => ?_)
            refine sn_if_gt (tgt := 55) hx hb d_Mo_type_48 (by decide) (fun b178 => ?_) (fun b178 => ?_)
            · exact j55u _ _ _ y172 hI hok (by omega) (by omega) (by omega) (lv_sub hl [1, 2, 3, 4, 5, 0] rfl)
            · refine sn_iconst hx hb d_Mo_type_51 (by decide) (fun z179 hz179 => ?_)
              refine lv_goto (tgt := 56) hx hb d_Mo_type_52 (by decide) ?_
              refine lv_istore (lv' := [(4, .int z179), (6, .long y172), (0, .ref (a 0)), (1, .long v9u_1), (3, .int x3), (5, .int v9u_5)]) hx hb d_Mo_type_56 hl (by decide) rfl (fun ls hl => ?_)
              refine sn_iinc (k := 5) hx hb d_Mo_type_58 hl rfl (by decide) (by decide) (by omega) (by omega) (fun ls z180 hz180 hl => ?_)
              have hl : lv_has ls 8 [(5, .int z180), (4, .int z179), (6, .long y172), (0, .ref (a 0)), (1, .long v9u_1), (3, .int x3)] := hl
              refine lv_goto (tgt := 9) hx hb d_Mo_type_61 (by decide) ?_
              exact ih _ _ _ z179 z180 v9u_1 hI hok (by omega) (by omega) (by omega) (by omega) (lv_sub hl [3, 4, 5, 1, 0] rfl) (by omega)
  refine lv_iload_n hx hb d_Mo_type_0 rfl (lv_at hl 2 rfl) ?_
  refine tz_call (A1 := ga (adM a) H.size) (tz_runS (As := [.int x3]) (rest := []) ⟨hx, hb, hml, hown, hts⟩ (c_Mo_isFew l hfl dC dI cI cJ a H.size th tr dp zi co sh lt ts mf x3 hok) (tx_cb (n := 1) hts rfl rfl ⟨Nat.le_of_ble_eq_true rfl, Nat.le_of_ble_eq_true rfl⟩ (tx_code.of (hts _ mw_1503)) (hts _ mw_12) (by decide +kernel) (hts _ mw_1501)) (hts _ mw_1502) ⟨tz_blind, fun U hU hW => ⟨rfl, by rw [hU], by rw [hU]; exact hI.1, va_K.moved hW.alike hK, hst _ _ hI.2 U hU hW⟩⟩ rfl rfl hl.1 rfl (lv_room (Nat.le_of_ble_eq_true rfl)) d_Mo_type_1 ⟨Nat.le_of_ble_eq_true rfl, Nat.le_of_ble_eq_true rfl⟩) hI.2 (fun q _ h => ga_sub hAC hA0 hI.2 q h) (ga_sub hAC hA0 hI.2) (fun v t H1 locs1 ht hWt hpost _ _ hS => ?_) (fun x t H1 locs1 ht hWt hpost _ _ hS => (hpost.2 x rfl).elim)
  rcases hpost.1 _ rfl with ⟨z181, hv, c182, c182_0, c182_1, hI1⟩ | ⟨z183, hv, c184, c184_0, c184_1, c184_2, c184_3, hI1⟩
  · cases hv
    have hI : sI (dC, dI) vcl cI cJ (gsM a th tr dp zi co sh lt ts mf) A s.heap H1 locs1 := ⟨by rw [← ht]; exact hI1, hS⟩
    clear hpost hI1 hS ht hWt
    revert hI; generalize H1 = H; generalize locs1 = locs; intro hI
    refine lv_istore (lv' := [(4, .int z181), (0, .ref (a 0)), (1, .long y1), (3, .int x3)]) hx hb d_Mo_type_4 hl (by decide) rfl (fun ls hl => ?_)
    refine sn_iconst hx hb d_Mo_type_6 (by decide) (fun z185 hz185 => ?_)
    refine lv_istore (lv' := [(5, .int z185), (4, .int z181), (0, .ref (a 0)), (1, .long y1), (3, .int x3)]) hx hb d_Mo_type_7 hl (by decide) rfl (fun ls hl => ?_)
    exact j9u 4294967293 _ _ _ z181 z185 y1 hI c182 (by omega) (by omega) (by omega) (by omega) (lv_sub hl [2, 3, 4, 1, 0] rfl) (by omega)
  · cases hv
    have hI : sI (dC, dI) vcl cI cJ (gsM a th tr dp zi co sh lt ts mf) A s.heap H1 locs1 := ⟨by rw [← ht]; exact hI1, hS⟩
    clear hpost hI1 hS ht hWt
    revert hI; generalize H1 = H; generalize locs1 = locs; intro hI
    refine lv_istore (lv' := [(4, .int z183), (0, .ref (a 0)), (1, .long y1), (3, .int x3)]) hx hb d_Mo_type_4 hl (by decide) rfl (fun ls hl => ?_)
    refine sn_iconst hx hb d_Mo_type_6 (by decide) (fun z186 hz186 => ?_)
    refine lv_istore (lv' := [(5, .int z186), (4, .int z183), (0, .ref (a 0)), (1, .long y1), (3, .int x3)]) hx hb d_Mo_type_7 hl (by decide) rfl (fun ls hl => ?_)
    exact j9u 4294967293 _ _ _ z183 z186 y1 hI c184 (by omega) (by omega) (by omega) (by omega) (lv_sub hl [2, 3, 4, 1, 0] rfl) (by omega)
abbrev q_Mo_copy_16_17 (dC : Nat → ClassId) (dI : Nat → Nat → Nat) (cI cJ : ClassId) (a : Nat → Nat) (th tr dp zi co sh lt ts : Int) (mf : Nat → Int32) (x2 : Int32) : Outcome → State → Prop := fun o t => (∀ v, o = .returned v → ((v = none ∧ okM th tr dp zi co sh lt ts mf ∧ sh_I (dC, dI) vcl cI cJ (gsM a th tr dp zi co sh lt ts mf) t.heap))) ∧ (∀ x, o = .threw x → (False))
def rm_Mo_copy_16_17 : Room := { frames := 0, cells := 0, slots := 0, locals := 0 }
set_option maxHeartbeats 4000000 in
set_option maxRecDepth 100000 in
theorem c_Mo_copy_16_17 (l : Launch) (hfl : l.flags = pinnedFlags ++ [noTraceFlag]) (dC : Nat → ClassId) (dI : Nat → Nat → Nat) (cI cJ : ClassId) (a : Nat → Nat) (sz : Nat) (th tr dp zi co sh lt ts : Int) (mf : Nat → Int32) (x2 : Int32) (hok : okM th tr dp zi co sh lt ts mf) (hp0 : 0 ≤ x2.toInt) (hp1 : x2.toInt ≤ 24) : tz_Met l ⟨"StoryMachineModel", "copy", "([I[II)V"⟩ tw_tbl rm_Mo_copy_16_17 (tzP (dC, dI) vcl cI cJ (gsM a th tr dp zi co sh lt ts mf) a (adM a) [.ref (a 16), .ref (a 17), .int x2] sz) (tq_Q (q_Mo_copy_16_17 dC dI cI cJ a th tr dp zi co sh lt ts mf x2) (ga (adM a) sz)) 0 0 0 0 (ga (adM a) sz) := by
  refine tz_ofW (cc := prog_13_method_56_code) (maxL := 4) (ret := none) (by decide) (tx_isM mw_1428) ?_
  intro p e s m args below meth c s₁ B hml hv
  obtain ⟨rfl, hsz, hI0, hK, hst0⟩ := hv
  have hx := B.exec
  have hb := B.bytes
  have hr := B.returns
  have hts := atoms_spec (ws := tw_tbl) B.pre
  have hown : s.vm.findClass "StoryMachineModel" = some m.cls := findClass_of_methodNamed B.named
  have hlocks := B.notSynchronized
  subst hsz
  have hst := fun (H : Heap) (locs : List Loc) (hS : va_S (ga (adM a) s.heap.size) s.heap H locs) (U : State) (hU : U.heap = H) (hW : s.WarmedH U.vm) => zS_all adM_map hI0 hst0 hS hU hW
  have hAC : ∀ q ∈ adM a, ga (adM a) s.heap.size q := fun q h => Or.inl h
  have hA0 : ∀ q, s.heap.size ≤ q → ga (adM a) s.heap.size q := fun q h => Or.inr h
  have hI : sI (dC, dI) vcl cI cJ (gsM a th tr dp zi co sh lt ts mf) (ga (adM a) s.heap.size) s.heap s.heap [] := ⟨hI0, va_S.rf⟩
  clear hI0 hst0
  have hl := lv_entry ([.ref (a 16), .ref (a 17), .int x2]) (n := 4) (Nat.le_of_ble_eq_true rfl)
  rw [lg_entry_eq]
  generalize (lg_sl ([.ref (a 16), .ref (a 17), .int x2]) ++ List.replicate (4 - (lg_sl ([.ref (a 16), .ref (a 17), .int x2])).length) Slot.unset).toArray = ls at hl ⊢
  have hl : lv_has ls 4 [(0, .ref (a 16)), (1, .ref (a 17)), (2, .int x2)] := hl
  generalize hZ : tz_MQ below (tq_Q (q_Mo_copy_16_17 dC dI cI cJ a th tr dp zi co sh lt ts mf x2) (ga (adM a) s.heap.size)) ([.ref (a 16), .ref (a 17), .int x2] : List Value).toArray s 0 0 0 0 (ga (adM a) s.heap.size) = Z
  obtain ⟨A, hAe⟩ : ∃ A, A = ga (adM a) s.heap.size := ⟨_, rfl⟩
  rw [← hAe] at hst hAC hA0 hI hZ
  refine sv_start hI (fun H locs hI => ?_)
  obtain ⟨⟨o1, o2⟩, ⟨o3, o4⟩, ⟨o5, o6⟩, ⟨o7, o8⟩, ⟨o9, o10⟩, ⟨o11, o12⟩, ⟨o13, o14⟩, ⟨o15, o16⟩, -⟩ := id hok
  have gx2 := sn_rng x2
  have j2 : ∀ (n : Nat) (H : Heap) (locs : List Loc) (ls : Array Slot) (v2_3 : Int32), sI (dC, dI) vcl cI cJ (gsM a th tr dp zi co sh lt ts mf) A s.heap H locs → okM th tr dp zi co sh lt ts mf → 0 ≤ v2_3.toInt → v2_3.toInt ≤ 24 → lv_has ls 4 [(0, .ref (a 16)), (1, .ref (a 17)), (2, .int x2), (3, .int v2_3)] → 24 - v2_3.toInt < (n : Int) → W p l e (headSpec tw_tbl rm_Mo_copy_16_17).room s m ([.ref (a 16), .ref (a 17), .int x2] : List Value).toArray below meth c H locs 0 0 Z (F0 m 2 ls []) := by
    intro n
    induction n with
    | zero => intro H locs ls v2_3 hI hok g2_0 g2_1 hl hme; exfalso; obtain ⟨⟨o17, o18⟩, ⟨o19, o20⟩, ⟨o21, o22⟩, ⟨o23, o24⟩, ⟨o25, o26⟩, ⟨o27, o28⟩, ⟨o29, o30⟩, ⟨o31, o32⟩, -⟩ := id hok; omega
    | succ n ih =>
      intro H locs ls v2_3 hI hok g2_0 g2_1 hl hme
      obtain ⟨⟨o33, o34⟩, ⟨o35, o36⟩, ⟨o37, o38⟩, ⟨o39, o40⟩, ⟨o41, o42⟩, ⟨o43, o44⟩, ⟨o45, o46⟩, ⟨o47, o48⟩, -⟩ := id hok
      refine lv_iload_n hx hb d_Mo_copy_2 rfl (lv_at hl 3 rfl) ?_
      refine lv_iload_n hx hb d_Mo_copy_3 rfl (lv_at hl 2 rfl) ?_
      refine sn_icmp_ge (tgt := 19) hx hb d_Mo_copy_4 (by decide) (fun b49 => ?_) (fun b49 => ?_)
      · subst hZ
        exact tz_ret (W.vret hx hb hr (fun t ht hW => ⟨⟨fun v9 hv9 => by cases hv9; exact (⟨rfl, hok, by rw [ht]; exact hI.1⟩), fun x9 hx9 => (by cases hx9)⟩, hI.2.F ht⟩) hI.2.2.2 d_Mo_copy_19)
      · refine lv_aload_n hx hb d_Mo_copy_7 rfl (lv_at hl 1 rfl) ?_
        refine lv_iload_n hx hb d_Mo_copy_8 rfl (lv_at hl 3 rfl) ?_
        refine lv_aload_n hx hb d_Mo_copy_9 rfl (lv_at hl 0 rfl) ?_
        refine lv_iload_n hx hb d_Mo_copy_10 rfl (lv_at hl 3 rfl) ?_
        refine sv_ialdr hx hb hK hI 16 kM_16 (by omega) (by omega) d_Mo_copy_11 (fun z50 hz50a hz50b => ?_)
        refine sv_iastr hx hb hK (sh_in adM_map hAC) hI 17 kM_17 (by omega) (by omega) (by omega) (by omega) pM_17 d_Mo_copy_12 (fun H locs hI => ?_)
        refine sn_iinc (k := 3) hx hb d_Mo_copy_13 hl rfl (by decide) (by decide) (by omega) (by omega) (fun ls z51 hz51 hl => ?_)
        have hl : lv_has ls 4 [(3, .int z51), (0, .ref (a 16)), (1, .ref (a 17)), (2, .int x2)] := hl
        refine lv_goto (tgt := 2) hx hb d_Mo_copy_16 (by decide) ?_
        exact ih _ _ _ z51 hI hok (by omega) (by omega) (lv_sub hl [1, 2, 3, 0] rfl) (by omega)
  refine sn_iconst hx hb d_Mo_copy_0 (by decide) (fun z52 hz52 => ?_)
  refine lv_istore_n (lv' := [(3, .int z52), (0, .ref (a 16)), (1, .ref (a 17)), (2, .int x2)]) hx hb d_Mo_copy_1 rfl hl (by decide) rfl (fun ls hl => ?_)
  exact j2 25 _ _ _ z52 hI hok (by omega) (by omega) (lv_sub hl [1, 2, 3, 0] rfl) (by omega)
