abbrev q_Mo_local (dC : Nat → ClassId) (dI : Nat → Nat → Nat) (cI cJ : ClassId) (a : Nat → Nat) (th tr dp zi co sh lt ts : Int) (mf : Nat → Int32) (x1 : Int32) : Outcome → State → Prop := fun o t => (∀ v, o = .returned v → ((∃ (z : Int32) (th_ : Int), v = some (.int z) ∧ okM th_ tr dp zi co sh lt ts mf ∧ (0 ≤ z.toInt) ∧ (z.toInt ≤ 65535) ∧ (th_ ≤ 1) ∧ sh_I (dC, dI) vcl cI cJ (gsM a th_ tr dp zi co sh lt ts mf) t.heap))) ∧ (∀ x, o = .threw x → (False))
def rm_Mo_local : Room := { frames := 0, cells := 0, slots := 0, locals := 0 }
set_option maxHeartbeats 4000000 in
set_option maxRecDepth 100000 in
theorem c_Mo_local (l : Launch) (hfl : l.flags = pinnedFlags ++ [noTraceFlag]) (dC : Nat → ClassId) (dI : Nat → Nat → Nat) (cI cJ : ClassId) (a : Nat → Nat) (sz : Nat) (th tr dp zi co sh lt ts : Int) (mf : Nat → Int32) (x1 : Int32) (hok : okM th tr dp zi co sh lt ts mf) : tz_Met l ⟨"StoryMachineModel", "local", "(I)I"⟩ tw_tbl rm_Mo_local (tzP (dC, dI) vcl cI cJ (gsM a th tr dp zi co sh lt ts mf) a (adM a) [.ref (a 0), .int x1] sz) (tq_Q (q_Mo_local dC dI cI cJ a th tr dp zi co sh lt ts mf x1) (ga (adM a) sz)) 0 0 0 0 (ga (adM a) sz) := by
  refine tz_ofW (cc := prog_13_method_83_code) (maxL := 2) (ret := (some .int)) (by decide) (tx_isM mw_1542) ?_
  intro p e s m args below meth c s₁ B hml hv
  obtain ⟨rfl, hsz, hI0, hK, hst0⟩ := hv
  have hx := B.exec
  have hb := B.bytes
  have hr := B.returns
  have hts := atoms_spec (ws := tw_tbl) B.pre
  have hown : s.vm.findClass "StoryMachineModel" = some m.cls := findClass_of_methodNamed B.named
  have hlocks := B.notSynchronized
  subst hsz
  have hst := fun (H : Heap) (locs : List Loc) (hS : va_S (ga (adM a) s.heap.size) s.heap H locs) (U : State) (hU : U.heap = H) (hW : s.WarmedH U.vm) => zS_all adM_map hI0 hst0 hS hU hW
  have hAC : ∀ q ∈ adM a, ga (adM a) s.heap.size q := fun q h => Or.inl h
  have hA0 : ∀ q, s.heap.size ≤ q → ga (adM a) s.heap.size q := fun q h => Or.inr h
  have hI : sI (dC, dI) vcl cI cJ (gsM a th tr dp zi co sh lt ts mf) (ga (adM a) s.heap.size) s.heap s.heap [] := ⟨hI0, va_S.rf⟩
  clear hI0 hst0
  have hl := lv_entry ([.ref (a 0), .int x1]) (n := 2) (Nat.le_of_ble_eq_true rfl)
  rw [lg_entry_eq]
  generalize (lg_sl ([.ref (a 0), .int x1]) ++ List.replicate (2 - (lg_sl ([.ref (a 0), .int x1])).length) Slot.unset).toArray = ls at hl ⊢
  have hl : lv_has ls 2 [(0, .ref (a 0)), (1, .int x1)] := hl
  generalize hZ : tz_MQ below (tq_Q (q_Mo_local dC dI cI cJ a th tr dp zi co sh lt ts mf x1) (ga (adM a) s.heap.size)) ([.ref (a 0), .int x1] : List Value).toArray s 0 0 0 0 (ga (adM a) s.heap.size) = Z
  obtain ⟨A, hAe⟩ : ∃ A, A = ga (adM a) s.heap.size := ⟨_, rfl⟩
  rw [← hAe] at hst hAC hA0 hI hZ
  refine sv_start hI (fun H locs hI => ?_)
  obtain ⟨⟨o1, o2⟩, ⟨o3, o4⟩, ⟨o5, o6⟩, ⟨o7, o8⟩, ⟨o9, o10⟩, ⟨o11, o12⟩, ⟨o13, o14⟩, ⟨o15, o16⟩, -⟩ := id hok
  have gx1 := sn_rng x1
  refine lv_aload_n hx hb d_Mo_local_0 rfl (lv_at hl 0 rfl) ?_
  refine lv_iload_n hx hb d_Mo_local_1 rfl (lv_at hl 1 rfl) ?_
  refine sn_if_lt (tgt := 11) hx hb d_Mo_local_2 (by decide) (fun b17 => ?_) (fun b17 => ?_)
  · refine sn_iconst hx hb d_Mo_local_11 (by decide) (fun z18 hz18 => ?_)
    refine lv_goto (tgt := 16) hx hb d_Mo_local_12 (by decide) ?_
    refine sv_put (C := "StoryMachineModel") (T := T_Mo) (N := 51) (ty := .int) hx hb hts in_Mo t_Mo tk_Mo nm_Mo hown hK (sh_in adM_map hAC) hI 0 kM_0 rfl 0 (by decide) (hts _ mw_1063) rfl (by decide +kernel) rfl rfl (Nat.le_of_ble_eq_true rfl) (Int.le_refl _) (Int.le_refl _) pM_0_0 d_Mo_local_16 (fun H locs hI => ?_)
    refine lv_aload_n hx hb d_Mo_local_19 rfl (lv_at hl 0 rfl) ?_
    refine sv_gete (C := "StoryMachineModel") (T := T_Mo) (N := 51) hx hb hts in_Mo hown hK hI 0 kM_0 rfl 0 (by decide) (hts _ mw_1063) rfl d_Mo_local_20 (fun z19 hz19 => ?_)
    refine sn_if_le (tgt := 28) hx hb d_Mo_local_23 (by decide) (fun b20 => ?_) (fun b20 => ?_)
    · omega
    · refine sn_iconst hx hb d_Mo_local_26 (by decide) (fun z21 hz21 => ?_)
      have ho22 : okM z18.toInt tr dp zi co sh lt ts mf := ⟨⟨by omega, by omega⟩, hok.2.1, hok.2.2.1, hok.2.2.2.1, hok.2.2.2.2.1, hok.2.2.2.2.2.1, hok.2.2.2.2.2.2.1, hok.2.2.2.2.2.2.2.1, hok.2.2.2.2.2.2.2.2⟩
      subst hZ
      exact tz_ret (W.iret (v := z21) hx hb hr (fun t ht hW => ⟨⟨fun v9 hv9 => by cases hv9; exact (⟨z21, z18.toInt, rfl, ho22, by omega, by omega, by omega, by rw [ht]; exact hI.1⟩), fun x9 hx9 => (by cases hx9)⟩, hI.2.F ht⟩) hI.2.2.2 d_Mo_local_27)
  · refine lv_iload_n hx hb d_Mo_local_5 rfl (lv_at hl 1 rfl) ?_
    refine sn_bipush hx hb d_Mo_local_6 (by decide) (fun z23 hz23 => ?_)
    refine sn_icmp_le (tgt := 15) hx hb d_Mo_local_8 (by decide) (fun b24 => ?_) (fun b24 => ?_)
    · refine sn_iconst hx hb d_Mo_local_15 (by decide) (fun z25 hz25 => ?_)
      refine sv_put (C := "StoryMachineModel") (T := T_Mo) (N := 51) (ty := .int) hx hb hts in_Mo t_Mo tk_Mo nm_Mo hown hK (sh_in adM_map hAC) hI 0 kM_0 rfl 0 (by decide) (hts _ mw_1063) rfl (by decide +kernel) rfl rfl (Nat.le_of_ble_eq_true rfl) (Int.le_refl _) (Int.le_refl _) pM_0_0 d_Mo_local_16 (fun H locs hI => ?_)
      refine lv_aload_n hx hb d_Mo_local_19 rfl (lv_at hl 0 rfl) ?_
      refine sv_gete (C := "StoryMachineModel") (T := T_Mo) (N := 51) hx hb hts in_Mo hown hK hI 0 kM_0 rfl 0 (by decide) (hts _ mw_1063) rfl d_Mo_local_20 (fun z26 hz26 => ?_)
      refine sn_if_le (tgt := 28) hx hb d_Mo_local_23 (by decide) (fun b27 => ?_) (fun b27 => ?_)
      · refine lv_iload_n hx hb d_Mo_local_28 rfl (lv_at hl 1 rfl) ?_
        refine sn_if_ne (tgt := 44) hx hb d_Mo_local_29 (by decide) (fun b28 => ?_) (fun b28 => ?_)
        · refine lv_iload_n hx hb d_Mo_local_44 rfl (lv_at hl 1 rfl) ?_
          refine lv_aload_n hx hb d_Mo_local_45 rfl (lv_at hl 0 rfl) ?_
          refine sv_getr (C := "StoryMachineModel") (T := T_Mo) (N := 51) hx hb hts in_Mo hown hK hI 0 kM_0 rfl 5 (by decide) (hts _ mw_1068) rfl d_Mo_local_46 ?_
          refine lv_aload_n hx hb d_Mo_local_49 rfl (lv_at hl 0 rfl) ?_
          refine sv_gete (C := "StoryMachineModel") (T := T_Mo) (N := 51) hx hb hts in_Mo hown hK hI 0 kM_0 rfl 4 (by decide) (hts _ mw_1067) rfl d_Mo_local_50 (fun z29 hz29 => ?_)
          refine sv_ialdr hx hb hK hI 3 kM_3 (by omega) (by omega) d_Mo_local_53 (fun z30 hz30a hz30b => ?_)
          refine sn_icmp_gt (tgt := 76) hx hb d_Mo_local_54 (by decide) (fun b31 => ?_) (fun b31 => ?_)
          · refine sn_iconst hx hb d_Mo_local_76 (by decide) (fun z32 hz32 => ?_)
            have ho33 : okM z25.toInt tr dp zi co sh lt ts mf := ⟨⟨by omega, by omega⟩, hok.2.1, hok.2.2.1, hok.2.2.2.1, hok.2.2.2.2.1, hok.2.2.2.2.2.1, hok.2.2.2.2.2.2.1, hok.2.2.2.2.2.2.2.1, hok.2.2.2.2.2.2.2.2⟩
            subst hZ
            exact tz_ret (W.iret (v := z32) hx hb hr (fun t ht hW => ⟨⟨fun v9 hv9 => by cases hv9; exact (⟨z32, z25.toInt, rfl, ho33, by omega, by omega, by omega, by rw [ht]; exact hI.1⟩), fun x9 hx9 => (by cases hx9)⟩, hI.2.F ht⟩) hI.2.2.2 d_Mo_local_77)
          · refine lv_aload_n hx hb d_Mo_local_57 rfl (lv_at hl 0 rfl) ?_
            refine sv_getr (C := "StoryMachineModel") (T := T_Mo) (N := 51) hx hb hts in_Mo hown hK hI 0 kM_0 rfl 9 (by decide) (hts _ mw_1072) rfl d_Mo_local_58 ?_
            refine sn_bipush hx hb d_Mo_local_61 (by decide) (fun z34 hz34 => ?_)
            refine lv_aload_n hx hb d_Mo_local_63 rfl (lv_at hl 0 rfl) ?_
            refine sv_gete (C := "StoryMachineModel") (T := T_Mo) (N := 51) hx hb hts in_Mo hown hK hI 0 kM_0 rfl 4 (by decide) (hts _ mw_1067) rfl d_Mo_local_64 (fun z35 hz35 => ?_)
            refine sn_imulL (k := 15) hx hb d_Mo_local_67 (by omega) (by omega) (by omega) (fun z36 hz36 => ?_)
            refine lv_iload_n hx hb d_Mo_local_68 rfl (lv_at hl 1 rfl) ?_
            refine sn_iadd hx hb d_Mo_local_69 (by omega) (by omega) (fun z37 hz37 => ?_)
            refine sn_iconst hx hb d_Mo_local_70 (by decide) (fun z38 hz38 => ?_)
            refine sn_isub hx hb d_Mo_local_71 (by omega) (by omega) (fun z39 hz39 => ?_)
            refine sv_ialdr hx hb hK hI 7 kM_7 (by omega) (by omega) d_Mo_local_72 (fun z40 hz40a hz40b => ?_)
            refine lv_goto (tgt := 77) hx hb d_Mo_local_73 (by decide) ?_
            have ho41 : okM z25.toInt tr dp zi co sh lt ts mf := ⟨⟨by omega, by omega⟩, hok.2.1, hok.2.2.1, hok.2.2.2.1, hok.2.2.2.2.1, hok.2.2.2.2.2.1, hok.2.2.2.2.2.2.1, hok.2.2.2.2.2.2.2.1, hok.2.2.2.2.2.2.2.2⟩
            subst hZ
            exact tz_ret (W.iret (v := z40) hx hb hr (fun t ht hW => ⟨⟨fun v9 hv9 => by cases hv9; exact (⟨z40, z25.toInt, rfl, ho41, by omega, by omega, by omega, by rw [ht]; exact hI.1⟩), fun x9 hx9 => (by cases hx9)⟩, hI.2.F ht⟩) hI.2.2.2 d_Mo_local_77)
        · refine lv_aload_n hx hb d_Mo_local_32 rfl (lv_at hl 0 rfl) ?_
          refine sv_getr (C := "StoryMachineModel") (T := T_Mo) (N := 51) hx hb hts in_Mo hown hK hI 0 kM_0 rfl 5 (by decide) (hts _ mw_1068) rfl d_Mo_local_33 ?_
          refine lv_aload_n hx hb d_Mo_local_36 rfl (lv_at hl 0 rfl) ?_
          refine sv_gete (C := "StoryMachineModel") (T := T_Mo) (N := 51) hx hb hts in_Mo hown hK hI 0 kM_0 rfl 4 (by decide) (hts _ mw_1067) rfl d_Mo_local_37 (fun z42 hz42 => ?_)
          refine sv_ialdr hx hb hK hI 3 kM_3 (by omega) (by omega) d_Mo_local_40 (fun z43 hz43a hz43b => ?_)
          refine lv_goto (tgt := 77) hx hb d_Mo_local_41 (by decide) ?_
          have ho44 : okM z25.toInt tr dp zi co sh lt ts mf := ⟨⟨by omega, by omega⟩, hok.2.1, hok.2.2.1, hok.2.2.2.1, hok.2.2.2.2.1, hok.2.2.2.2.2.1, hok.2.2.2.2.2.2.1, hok.2.2.2.2.2.2.2.1, hok.2.2.2.2.2.2.2.2⟩
          subst hZ
          exact tz_ret (W.iret (v := z43) hx hb hr (fun t ht hW => ⟨⟨fun v9 hv9 => by cases hv9; exact (⟨z43, z25.toInt, rfl, ho44, by omega, by omega, by omega, by rw [ht]; exact hI.1⟩), fun x9 hx9 => (by cases hx9)⟩, hI.2.F ht⟩) hI.2.2.2 d_Mo_local_77)
      · omega
    · refine sn_iconst hx hb d_Mo_local_11 (by decide) (fun z45 hz45 => ?_)
      refine lv_goto (tgt := 16) hx hb d_Mo_local_12 (by decide) ?_
      refine sv_put (C := "StoryMachineModel") (T := T_Mo) (N := 51) (ty := .int) hx hb hts in_Mo t_Mo tk_Mo nm_Mo hown hK (sh_in adM_map hAC) hI 0 kM_0 rfl 0 (by decide) (hts _ mw_1063) rfl (by decide +kernel) rfl rfl (Nat.le_of_ble_eq_true rfl) (Int.le_refl _) (Int.le_refl _) pM_0_0 d_Mo_local_16 (fun H locs hI => ?_)
      refine lv_aload_n hx hb d_Mo_local_19 rfl (lv_at hl 0 rfl) ?_
      refine sv_gete (C := "StoryMachineModel") (T := T_Mo) (N := 51) hx hb hts in_Mo hown hK hI 0 kM_0 rfl 0 (by decide) (hts _ mw_1063) rfl d_Mo_local_20 (fun z46 hz46 => ?_)
      refine sn_if_le (tgt := 28) hx hb d_Mo_local_23 (by decide) (fun b47 => ?_) (fun b47 => ?_)
      · omega
      · refine sn_iconst hx hb d_Mo_local_26 (by decide) (fun z48 hz48 => ?_)
        have ho49 : okM z45.toInt tr dp zi co sh lt ts mf := ⟨⟨by omega, by omega⟩, hok.2.1, hok.2.2.1, hok.2.2.2.1, hok.2.2.2.2.1, hok.2.2.2.2.2.1, hok.2.2.2.2.2.2.1, hok.2.2.2.2.2.2.2.1, hok.2.2.2.2.2.2.2.2⟩
        subst hZ
        exact tz_ret (W.iret (v := z48) hx hb hr (fun t ht hW => ⟨⟨fun v9 hv9 => by cases hv9; exact (⟨z48, z45.toInt, rfl, ho49, by omega, by omega, by omega, by rw [ht]; exact hI.1⟩), fun x9 hx9 => (by cases hx9)⟩, hI.2.F ht⟩) hI.2.2.2 d_Mo_local_27)
abbrev q_Mo_routines (dC : Nat → ClassId) (dI : Nat → Nat → Nat) (cI cJ : ClassId) (a : Nat → Nat) (th tr dp zi co sh lt ts : Int) (mf : Nat → Int32) : Outcome → State → Prop := fun o t => (∀ v, o = .returned v → ((∃ (z : Int32) (th_ : Int), v = some (.int z) ∧ okM th_ tr dp zi co sh lt ts mf ∧ (0 ≤ z.toInt) ∧ (z.toInt ≤ 10) ∧ (th_ ≤ 0) ∧ sh_I (dC, dI) vcl cI cJ (gsM a th_ tr dp zi co sh lt ts mf) t.heap))) ∧ (∀ x, o = .threw x → (False))
def rm_Mo_routines : Room := { frames := 0, cells := 0, slots := 0, locals := 0 }
set_option maxHeartbeats 4000000 in
set_option maxRecDepth 100000 in
theorem c_Mo_routines (l : Launch) (hfl : l.flags = pinnedFlags ++ [noTraceFlag]) (dC : Nat → ClassId) (dI : Nat → Nat → Nat) (cI cJ : ClassId) (a : Nat → Nat) (sz : Nat) (th tr dp zi co sh lt ts : Int) (mf : Nat → Int32) (hok : okM th tr dp zi co sh lt ts mf) : tz_Met l ⟨"StoryMachineModel", "routines", "()I"⟩ tw_tbl rm_Mo_routines (tzP (dC, dI) vcl cI cJ (gsM a th tr dp zi co sh lt ts mf) a (adM a) [.ref (a 0)] sz) (tq_Q (q_Mo_routines dC dI cI cJ a th tr dp zi co sh lt ts mf) (ga (adM a) sz)) 0 0 0 0 (ga (adM a) sz) := by
  refine tz_ofW (cc := prog_13_method_84_code) (maxL := 1) (ret := (some .int)) (by decide) (tx_isM mw_1546) ?_
  intro p e s m args below meth c s₁ B hml hv
  obtain ⟨rfl, hsz, hI0, hK, hst0⟩ := hv
  have hx := B.exec
  have hb := B.bytes
  have hr := B.returns
  have hts := atoms_spec (ws := tw_tbl) B.pre
  have hown : s.vm.findClass "StoryMachineModel" = some m.cls := findClass_of_methodNamed B.named
  have hlocks := B.notSynchronized
  subst hsz
  have hst := fun (H : Heap) (locs : List Loc) (hS : va_S (ga (adM a) s.heap.size) s.heap H locs) (U : State) (hU : U.heap = H) (hW : s.WarmedH U.vm) => zS_all adM_map hI0 hst0 hS hU hW
  have hAC : ∀ q ∈ adM a, ga (adM a) s.heap.size q := fun q h => Or.inl h
  have hA0 : ∀ q, s.heap.size ≤ q → ga (adM a) s.heap.size q := fun q h => Or.inr h
  have hI : sI (dC, dI) vcl cI cJ (gsM a th tr dp zi co sh lt ts mf) (ga (adM a) s.heap.size) s.heap s.heap [] := ⟨hI0, va_S.rf⟩
  clear hI0 hst0
  have hl := lv_entry ([.ref (a 0)]) (n := 1) (Nat.le_of_ble_eq_true rfl)
  rw [lg_entry_eq]
  generalize (lg_sl ([.ref (a 0)]) ++ List.replicate (1 - (lg_sl ([.ref (a 0)])).length) Slot.unset).toArray = ls at hl ⊢
  have hl : lv_has ls 1 [(0, .ref (a 0))] := hl
  generalize hZ : tz_MQ below (tq_Q (q_Mo_routines dC dI cI cJ a th tr dp zi co sh lt ts mf) (ga (adM a) s.heap.size)) ([.ref (a 0)] : List Value).toArray s 0 0 0 0 (ga (adM a) s.heap.size) = Z
  obtain ⟨A, hAe⟩ : ∃ A, A = ga (adM a) s.heap.size := ⟨_, rfl⟩
  rw [← hAe] at hst hAC hA0 hI hZ
  refine sv_start hI (fun H locs hI => ?_)
  obtain ⟨⟨o1, o2⟩, ⟨o3, o4⟩, ⟨o5, o6⟩, ⟨o7, o8⟩, ⟨o9, o10⟩, ⟨o11, o12⟩, ⟨o13, o14⟩, ⟨o15, o16⟩, -⟩ := id hok
  refine lv_aload_n hx hb d_Mo_routines_0 rfl (lv_at hl 0 rfl) ?_
  refine sn_iconst hx hb d_Mo_routines_1 (by decide) (fun z17 hz17 => ?_)
  refine sv_put (C := "StoryMachineModel") (T := T_Mo) (N := 51) (ty := .int) hx hb hts in_Mo t_Mo tk_Mo nm_Mo hown hK (sh_in adM_map hAC) hI 0 kM_0 rfl 0 (by decide) (hts _ mw_1063) rfl (by decide +kernel) rfl rfl (Nat.le_of_ble_eq_true rfl) (Int.le_refl _) (Int.le_refl _) pM_0_0 d_Mo_routines_2 (fun H locs hI => ?_)
  refine lv_aload_n hx hb d_Mo_routines_5 rfl (lv_at hl 0 rfl) ?_
  refine sv_gete (C := "StoryMachineModel") (T := T_Mo) (N := 51) hx hb hts in_Mo hown hK hI 0 kM_0 rfl 4 (by decide) (hts _ mw_1067) rfl d_Mo_routines_6 (fun z18 hz18 => ?_)
  have ho19 : okM z17.toInt tr dp zi co sh lt ts mf := ⟨⟨by omega, by omega⟩, hok.2.1, hok.2.2.1, hok.2.2.2.1, hok.2.2.2.2.1, hok.2.2.2.2.2.1, hok.2.2.2.2.2.2.1, hok.2.2.2.2.2.2.2.1, hok.2.2.2.2.2.2.2.2⟩
  subst hZ
  exact tz_ret (W.iret (v := z18) hx hb hr (fun t ht hW => ⟨⟨fun v9 hv9 => by cases hv9; exact (⟨z18, z17.toInt, rfl, ho19, by omega, by omega, by omega, by rw [ht]; exact hI.1⟩), fun x9 hx9 => (by cases hx9)⟩, hI.2.F ht⟩) hI.2.2.2 d_Mo_routines_9)
abbrev q_La_poke (dC : Nat → ClassId) (dI : Nat → Nat → Nat) (cI cJ : ClassId) (a : Nat → Nat) (he dp co li op wd tl lc fo : Int) (sf lf nf : Nat → Int32) (x1 : Int32) (y2 : Int64) (x4 : Int32) : Outcome → State → Prop := fun o t => (∀ v, o = .returned v → ((∃ (z : Int32), v = some (.int z) ∧ okC he dp co li op wd tl lc fo sf lf nf ∧ (0 ≤ z.toInt) ∧ (z.toInt ≤ 0) ∧ (0 ≤ x1.toInt) ∧ (x1.toInt ≤ 511) ∧ (1 ≤ x4.toInt) ∧ (x4.toInt ≤ 8) ∧ (1 ≤ x4.toInt) ∧ (x4.toInt ≤ 8) ∧ (0 ≤ x1.toInt) ∧ (x1.toInt + x4.toInt ≤ 512) ∧ sh_I (dC, dI) vcl cI cJ (gsC a he dp co li op wd tl lc fo sf lf nf) t.heap) ∨ (∃ (z : Int32), v = some (.int z) ∧ okC he dp co li op wd tl lc fo sf lf nf ∧ (1 ≤ z.toInt) ∧ (z.toInt ≤ 1) ∧ (x4.toInt < 1 ∨ 8 < x4.toInt ∨ x1.toInt < 0 ∨ 512 < x1.toInt + x4.toInt) ∧ sh_I (dC, dI) vcl cI cJ (gsC a he dp co li op wd tl lc fo sf lf nf) t.heap))) ∧ (∀ x, o = .threw x → (False))
def rm_La_poke : Room := { frames := 8, cells := 1, slots := 6, locals := 155 }
set_option maxHeartbeats 4000000 in
set_option maxRecDepth 100000 in
theorem c_La_poke (l : Launch) (hfl : l.flags = pinnedFlags ++ [noTraceFlag]) (dC : Nat → ClassId) (dI : Nat → Nat → Nat) (cI cJ : ClassId) (a : Nat → Nat) (sz : Nat) (he dp co li op wd tl lc fo : Int) (sf lf nf : Nat → Int32) (x1 : Int32) (y2 : Int64) (x4 : Int32) (hok : okC he dp co li op wd tl lc fo sf lf nf) : tz_Met l ⟨"StoryMachineLaw", "poke", "(LStoryMachine;IJI)I"⟩ tw_tbl rm_La_poke (tzP (dC, dI) vcl cI cJ (gsC a he dp co li op wd tl lc fo sf lf nf) a (adC a) [.ref (a 0), .int x1, .long y2, .int x4] sz) (tq_Q (q_La_poke dC dI cI cJ a he dp co li op wd tl lc fo sf lf nf x1 y2 x4) (ga (adC a) sz)) 1 6 0 0 (ga (adC a) sz) := by
  refine tz_ofW (cc := method_3_code) (maxL := 6) (ret := (some .int)) (by decide) (tx_isWM mw_348) ?_
  intro p e s m args below meth c s₁ B hml hv
  obtain ⟨rfl, hsz, hI0, hK, hst0⟩ := hv
  have hx := B.exec
  have hb := B.bytes
  have hr := B.returns
  have hts := atoms_spec (ws := tw_tbl) B.pre
  have hown : s.vm.findClass "StoryMachineLaw" = some m.cls := findClass_of_methodNamed B.named
  have hlocks := B.notSynchronized
  subst hsz
  have hst := fun (H : Heap) (locs : List Loc) (hS : va_S (ga (adC a) s.heap.size) s.heap H locs) (U : State) (hU : U.heap = H) (hW : s.WarmedH U.vm) => zS_all adC_map hI0 hst0 hS hU hW
  have hAC : ∀ q ∈ adC a, ga (adC a) s.heap.size q := fun q h => Or.inl h
  have hA0 : ∀ q, s.heap.size ≤ q → ga (adC a) s.heap.size q := fun q h => Or.inr h
  have hI : sI (dC, dI) vcl cI cJ (gsC a he dp co li op wd tl lc fo sf lf nf) (ga (adC a) s.heap.size) s.heap s.heap [] := ⟨hI0, va_S.rf⟩
  clear hI0 hst0
  have hl := lv_entry ([.ref (a 0), .int x1, .long y2, .int x4]) (n := 6) (Nat.le_of_ble_eq_true rfl)
  rw [lg_entry_eq]
  generalize (lg_sl ([.ref (a 0), .int x1, .long y2, .int x4]) ++ List.replicate (6 - (lg_sl ([.ref (a 0), .int x1, .long y2, .int x4])).length) Slot.unset).toArray = ls at hl ⊢
  have hl : lv_has ls 6 [(0, .ref (a 0)), (1, .int x1), (2, .long y2), (4, .int x4)] := hl
  generalize hZ : tz_MQ below (tq_Q (q_La_poke dC dI cI cJ a he dp co li op wd tl lc fo sf lf nf x1 y2 x4) (ga (adC a) s.heap.size)) ([.ref (a 0), .int x1, .long y2, .int x4] : List Value).toArray s 1 6 0 0 (ga (adC a) s.heap.size) = Z
  obtain ⟨A, hAe⟩ : ∃ A, A = ga (adC a) s.heap.size := ⟨_, rfl⟩
  rw [← hAe] at hst hAC hA0 hI hZ
  refine sv_start hI (fun H locs hI => ?_)
  obtain ⟨⟨o1, o2⟩, ⟨o3, o4⟩, ⟨o5, o6⟩, ⟨o7, o8⟩, ⟨o9, o10⟩, ⟨o11, o12⟩, ⟨o13, o14⟩, ⟨o15, o16⟩, ⟨o17, o18⟩, o19, -, -⟩ := id hok
  have gx1 := sn_rng x1
  have gx4 := sn_rng x4
  refine lv_aload_n hx hb d_La_poke_0 rfl (lv_at hl 0 rfl) ?_
  refine lv_iload_n hx hb d_La_poke_1 rfl (lv_at hl 1 rfl) ?_
  refine lv_lload_n hx hb d_La_poke_2 rfl (lv_at hl 2 rfl) ?_
  refine lv_iload hx hb d_La_poke_3 (lv_at hl 3 rfl) ?_
  refine tz_call (A1 := ga (adC a) H.size) (tz_runV (C := "StoryMachine") (As := [.int x1, .long y2, .int x4]) (rest := []) ⟨hx, hb, hml, hown, hts⟩ (c_SM_poke l hfl dC dI cI cJ a H.size he dp co li op wd tl lc fo sf lf nf x1 y2 x4 hok) (tx_cb (n := 3) hts rfl rfl ⟨Nat.le_of_ble_eq_true rfl, Nat.le_of_ble_eq_true rfl⟩ (tx_code.of (hts _ mw_353)) (hts _ mw_1) (by decide +kernel) (hts _ mw_350)) (hts _ mw_351) (hts _ mw_352) ⟨tz_blind, sv_recv (q0 := 0) hts in_SM hK hI kC_0 rfl, fun U hU hW => ⟨rfl, by rw [hU], by rw [hU]; exact hI.1, va_K.moved hW.alike hK, hst _ _ hI.2 U hU hW⟩⟩ rfl rfl hl.1 rfl (lv_room (Nat.le_of_ble_eq_true rfl)) d_La_poke_5 ⟨Nat.le_of_ble_eq_true rfl, Nat.le_of_ble_eq_true rfl⟩) hI.2 (fun q _ h => ga_sub hAC hA0 hI.2 q h) (ga_sub hAC hA0 hI.2) (fun v t H1 locs1 ht hWt hpost _ _ hS => ?_) (fun x t H1 locs1 ht hWt hpost _ _ hS => ?_)
  · rcases hpost.1 _ rfl with ⟨hv, c20, c20_0, c20_1, c20_2, c20_3, c20_4, c20_5, c20_6, c20_7, hI1⟩
    cases hv
    have hI : sI (dC, dI) vcl cI cJ (gsC a he dp co li op wd tl lc fo sf lf nf) A s.heap H1 locs1 := ⟨by rw [← ht]; exact hI1, hS⟩
    clear hpost hI1 hS ht hWt
    revert hI; generalize H1 = H; generalize locs1 = locs; intro hI
    refine lv_goto (tgt := 15) hx hb d_La_poke_8 (by decide) ?_
    refine sn_iconst hx hb d_La_poke_15 (by decide) (fun z21 hz21 => ?_)
    refine W.widen (k := 1) (n := 6) (Nat.le_of_ble_eq_true rfl) (Nat.le_of_ble_eq_true rfl) ?_
    subst hZ
    exact tz_ret (W.iret (v := z21) hx hb hr (fun t ht hW => ⟨⟨fun v9 hv9 => by cases hv9; exact (Or.inl ⟨z21, rfl, c20, by omega, by omega, by omega, by omega, by omega, by omega, by omega, by omega, by omega, by omega, by rw [ht]; exact hI.1⟩), fun x9 hx9 => (by cases hx9)⟩, hI.2.F ht⟩) hI.2.2.2 d_La_poke_16)
  · rcases hpost.2 _ rfl with ⟨hex, c22, c22_0, hI1⟩
    have hI : sI (dC, dI) vcl cI cJ (gsC a he dp co li op wd tl lc fo sf lf nf) A s.heap H1 locs1 := ⟨by rw [← ht]; exact hI1, hS⟩
    obtain ⟨ce, hce, hcl, hvm⟩ := hex
    refine tx_catchN (own := "StoryMachineLaw") (C := "java/lang/IllegalArgumentException") (X := "java/lang/IllegalArgumentException") [] (tx_tab B (hts _ mw_348)) ((fun _ h => by cases h)) (by decide) (by decide) hown (hts _ mw_349) (by rw [← ht]; exact hce) (fun k h => by rw [hvm] at h; cases h) (by rw [← hWt.alike.findClass]; exact hcl) (hts _ mw_356) ?_
    clear hpost hI1 hS ht hWt hce hcl hvm
    revert hI; generalize H1 = H; generalize locs1 = locs; intro hI
    refine lv_astore (lv' := [(5, .ref x), (0, .ref (a 0)), (1, .int x1), (2, .long y2), (4, .int x4)]) hx hb d_La_poke_11 hl (by decide) rfl (fun ls hl => ?_)
    refine sn_iconst hx hb d_La_poke_13 (by decide) (fun z23 hz23 => ?_)
    subst hZ
    exact tz_ret (W.iret (v := z23) hx hb hr (fun t ht hW => ⟨⟨fun v9 hv9 => by cases hv9; exact (Or.inr (⟨z23, rfl, c22, by omega, by omega, by omega, by rw [ht]; exact hI.1⟩)), fun x9 hx9 => (by cases hx9)⟩, hI.2.F ht⟩) hI.2.2.2 d_La_poke_14)
abbrev q_La_peek (dC : Nat → ClassId) (dI : Nat → Nat → Nat) (cI cJ : ClassId) (a : Nat → Nat) (he dp co li op wd tl lc fo : Int) (sf lf nf : Nat → Int32) (x1 : Int32) : Outcome → State → Prop := fun o t => (∀ v, o = .returned v → ((∃ (z : Int32), v = some (.int z) ∧ okC he dp co li op wd tl lc fo sf lf nf ∧ (0 ≤ z.toInt) ∧ (z.toInt ≤ 1) ∧ sh_I (dC, dI) vcl cI cJ (gsC a he dp co li op wd tl lc fo sf lf nf) t.heap))) ∧ (∀ x, o = .threw x → (False))
def rm_La_peek : Room := { frames := 8, cells := 1, slots := 6, locals := 151 }
set_option maxHeartbeats 4000000 in
set_option maxRecDepth 100000 in
theorem c_La_peek (l : Launch) (hfl : l.flags = pinnedFlags ++ [noTraceFlag]) (dC : Nat → ClassId) (dI : Nat → Nat → Nat) (cI cJ : ClassId) (a : Nat → Nat) (sz : Nat) (he dp co li op wd tl lc fo : Int) (sf lf nf : Nat → Int32) (x1 : Int32) (hok : okC he dp co li op wd tl lc fo sf lf nf) : tz_Met l ⟨"StoryMachineLaw", "peek", "(LStoryMachine;I[J)I"⟩ tw_tbl rm_La_peek (tzP (dC, dI) vcl cI cJ (gsC a he dp co li op wd tl lc fo sf lf nf) a (adC a) [.ref (a 0), .int x1, .ref (a 35)] sz) (tq_Q (q_La_peek dC dI cI cJ a he dp co li op wd tl lc fo sf lf nf x1) (ga (adC a) sz)) 1 6 0 0 (ga (adC a) sz) := by
  refine tz_ofW (cc := method_4_code) (maxL := 4) (ret := (some .int)) (by decide) (tx_isWM mw_424) ?_
  intro p e s m args below meth c s₁ B hml hv
  obtain ⟨rfl, hsz, hI0, hK, hst0⟩ := hv
  have hx := B.exec
  have hb := B.bytes
  have hr := B.returns
  have hts := atoms_spec (ws := tw_tbl) B.pre
  have hown : s.vm.findClass "StoryMachineLaw" = some m.cls := findClass_of_methodNamed B.named
  have hlocks := B.notSynchronized
  subst hsz
  have hst := fun (H : Heap) (locs : List Loc) (hS : va_S (ga (adC a) s.heap.size) s.heap H locs) (U : State) (hU : U.heap = H) (hW : s.WarmedH U.vm) => zS_all adC_map hI0 hst0 hS hU hW
  have hAC : ∀ q ∈ adC a, ga (adC a) s.heap.size q := fun q h => Or.inl h
  have hA0 : ∀ q, s.heap.size ≤ q → ga (adC a) s.heap.size q := fun q h => Or.inr h
  have hI : sI (dC, dI) vcl cI cJ (gsC a he dp co li op wd tl lc fo sf lf nf) (ga (adC a) s.heap.size) s.heap s.heap [] := ⟨hI0, va_S.rf⟩
  clear hI0 hst0
  have hl := lv_entry ([.ref (a 0), .int x1, .ref (a 35)]) (n := 4) (Nat.le_of_ble_eq_true rfl)
  rw [lg_entry_eq]
  generalize (lg_sl ([.ref (a 0), .int x1, .ref (a 35)]) ++ List.replicate (4 - (lg_sl ([.ref (a 0), .int x1, .ref (a 35)])).length) Slot.unset).toArray = ls at hl ⊢
  have hl : lv_has ls 4 [(0, .ref (a 0)), (1, .int x1), (2, .ref (a 35))] := hl
  generalize hZ : tz_MQ below (tq_Q (q_La_peek dC dI cI cJ a he dp co li op wd tl lc fo sf lf nf x1) (ga (adC a) s.heap.size)) ([.ref (a 0), .int x1, .ref (a 35)] : List Value).toArray s 1 6 0 0 (ga (adC a) s.heap.size) = Z
  obtain ⟨A, hAe⟩ : ∃ A, A = ga (adC a) s.heap.size := ⟨_, rfl⟩
  rw [← hAe] at hst hAC hA0 hI hZ
  refine sv_start hI (fun H locs hI => ?_)
  obtain ⟨⟨o1, o2⟩, ⟨o3, o4⟩, ⟨o5, o6⟩, ⟨o7, o8⟩, ⟨o9, o10⟩, ⟨o11, o12⟩, ⟨o13, o14⟩, ⟨o15, o16⟩, ⟨o17, o18⟩, o19, -, -⟩ := id hok
  have gx1 := sn_rng x1
  refine lv_aload_n hx hb d_La_peek_0 rfl (lv_at hl 2 rfl) ?_
  refine sn_iconst hx hb d_La_peek_1 (by decide) (fun z20 hz20 => ?_)
  refine lv_aload_n hx hb d_La_peek_2 rfl (lv_at hl 0 rfl) ?_
  refine lv_iload_n hx hb d_La_peek_3 rfl (lv_at hl 1 rfl) ?_
  refine tz_call (A1 := ga (adC a) H.size) (tz_runV (C := "StoryMachine") (As := [.int x1]) (rest := [.int z20, .ref (a 35)]) ⟨hx, hb, hml, hown, hts⟩ (c_SM_peek l hfl dC dI cI cJ a H.size he dp co li op wd tl lc fo sf lf nf x1 hok) (tx_cb (n := 1) hts rfl rfl ⟨Nat.le_of_ble_eq_true rfl, Nat.le_of_ble_eq_true rfl⟩ (tx_code.of (hts _ mw_428)) (hts _ mw_1) (by decide +kernel) (hts _ mw_425)) (hts _ mw_426) (hts _ mw_427) ⟨tz_blind, sv_recv (q0 := 0) hts in_SM hK hI kC_0 rfl, fun U hU hW => ⟨rfl, by rw [hU], by rw [hU]; exact hI.1, va_K.moved hW.alike hK, hst _ _ hI.2 U hU hW⟩⟩ rfl rfl hl.1 rfl (lv_room (Nat.le_of_ble_eq_true rfl)) d_La_peek_4 ⟨Nat.le_of_ble_eq_true rfl, Nat.le_of_ble_eq_true rfl⟩) hI.2 (fun q _ h => ga_sub hAC hA0 hI.2 q h) (ga_sub hAC hA0 hI.2) (fun v t H1 locs1 ht hWt hpost _ _ hS => ?_) (fun x t H1 locs1 ht hWt hpost _ _ hS => ?_)
  · rcases hpost.1 _ rfl with ⟨z21, hv, c22, c22_0, c22_1, c22_2, c22_3, hI1⟩
    cases hv
    have hI : sI (dC, dI) vcl cI cJ (gsC a he dp co li op wd tl lc fo sf lf nf) A s.heap H1 locs1 := ⟨by rw [← ht]; exact hI1, hS⟩
    clear hpost hI1 hS ht hWt
    revert hI; generalize H1 = H; generalize locs1 = locs; intro hI
    refine lv_i2l hx hb d_La_peek_7 rfl ?_
    refine lv_topl (fun y23 hy23 => ?_)
    refine sv_last hx hb hK (sh_in adC_map hAC) hI 35 kC_35 (by omega) (by omega) pC_35 d_La_peek_8 (fun H locs hI => ?_)
    refine lv_goto (tgt := 15) hx hb d_La_peek_9 (by decide) ?_
    refine sn_iconst hx hb d_La_peek_15 (by decide) (fun z24 hz24 => ?_)
    refine W.widen (k := 1) (n := 6) (Nat.le_of_ble_eq_true rfl) (Nat.le_of_ble_eq_true rfl) ?_
    subst hZ
    exact tz_ret (W.iret (v := z24) hx hb hr (fun t ht hW => ⟨⟨fun v9 hv9 => by cases hv9; exact (⟨z24, rfl, c22, by omega, by omega, by rw [ht]; exact hI.1⟩), fun x9 hx9 => (by cases hx9)⟩, hI.2.F ht⟩) hI.2.2.2 d_La_peek_16)
  · rcases hpost.2 _ rfl with ⟨hex, c25, hI1⟩
    have hI : sI (dC, dI) vcl cI cJ (gsC a he dp co li op wd tl lc fo sf lf nf) A s.heap H1 locs1 := ⟨by rw [← ht]; exact hI1, hS⟩
    obtain ⟨ce, hce, hcl, hvm⟩ := hex
    refine tx_catchN (own := "StoryMachineLaw") (C := "java/lang/IllegalArgumentException") (X := "java/lang/IllegalArgumentException") [] (tx_tab B (hts _ mw_424)) ((fun _ h => by cases h)) (by decide) (by decide) hown (hts _ mw_349) (by rw [← ht]; exact hce) (fun k h => by rw [hvm] at h; cases h) (by rw [← hWt.alike.findClass]; exact hcl) (hts _ mw_356) ?_
    clear hpost hI1 hS ht hWt hce hcl hvm
    revert hI; generalize H1 = H; generalize locs1 = locs; intro hI
    refine lv_astore_n (lv' := [(3, .ref x), (0, .ref (a 0)), (1, .int x1), (2, .ref (a 35))]) hx hb d_La_peek_12 rfl hl (by decide) rfl (fun ls hl => ?_)
    refine sn_iconst hx hb d_La_peek_13 (by decide) (fun z26 hz26 => ?_)
    subst hZ
    exact tz_ret (W.iret (v := z26) hx hb hr (fun t ht hW => ⟨⟨fun v9 hv9 => by cases hv9; exact (⟨z26, rfl, c25, by omega, by omega, by rw [ht]; exact hI.1⟩), fun x9 hx9 => (by cases hx9)⟩, hI.2.F ht⟩) hI.2.2.2 d_La_peek_14)
abbrev q_La_begin (dC : Nat → ClassId) (dI : Nat → Nat → Nat) (cI cJ : ClassId) (a : Nat → Nat) (he dp co li op wd tl lc fo : Int) (sf lf nf : Nat → Int32) : Outcome → State → Prop := fun o t => (∀ v, o = .returned v → ((∃ (z : Int32) (he_ dp_ tl_ : Int) (nf_ : Nat → Int32), v = some (.int z) ∧ okC he_ dp_ co li op wd tl_ lc fo sf lf nf_ ∧ (0 ≤ z.toInt) ∧ (z.toInt ≤ 1) ∧ sh_I (dC, dI) vcl cI cJ (gsC a he_ dp_ co li op wd tl_ lc fo sf lf nf_) t.heap))) ∧ (∀ x, o = .threw x → (False))
def rm_La_begin : Room := { frames := 8, cells := 1, slots := 6, locals := 151 }
set_option maxHeartbeats 4000000 in
set_option maxRecDepth 100000 in
theorem c_La_begin (l : Launch) (hfl : l.flags = pinnedFlags ++ [noTraceFlag]) (dC : Nat → ClassId) (dI : Nat → Nat → Nat) (cI cJ : ClassId) (a : Nat → Nat) (sz : Nat) (he dp co li op wd tl lc fo : Int) (sf lf nf : Nat → Int32) (hok : okC he dp co li op wd tl lc fo sf lf nf) : tz_Met l ⟨"StoryMachineLaw", "begin", "(LStoryMachine;)I"⟩ tw_tbl rm_La_begin (tzP (dC, dI) vcl cI cJ (gsC a he dp co li op wd tl lc fo sf lf nf) a (adC a) [.ref (a 0)] sz) (tq_Q (q_La_begin dC dI cI cJ a he dp co li op wd tl lc fo sf lf nf) (ga (adC a) sz)) 1 6 0 0 (ga (adC a) sz) := by
  refine tz_ofW (cc := method_5_code) (maxL := 2) (ret := (some .int)) (by decide) (tx_isWM mw_431) ?_
  intro p e s m args below meth c s₁ B hml hv
  obtain ⟨rfl, hsz, hI0, hK, hst0⟩ := hv
  have hx := B.exec
  have hb := B.bytes
  have hr := B.returns
  have hts := atoms_spec (ws := tw_tbl) B.pre
  have hown : s.vm.findClass "StoryMachineLaw" = some m.cls := findClass_of_methodNamed B.named
  have hlocks := B.notSynchronized
  subst hsz
  have hst := fun (H : Heap) (locs : List Loc) (hS : va_S (ga (adC a) s.heap.size) s.heap H locs) (U : State) (hU : U.heap = H) (hW : s.WarmedH U.vm) => zS_all adC_map hI0 hst0 hS hU hW
  have hAC : ∀ q ∈ adC a, ga (adC a) s.heap.size q := fun q h => Or.inl h
  have hA0 : ∀ q, s.heap.size ≤ q → ga (adC a) s.heap.size q := fun q h => Or.inr h
  have hI : sI (dC, dI) vcl cI cJ (gsC a he dp co li op wd tl lc fo sf lf nf) (ga (adC a) s.heap.size) s.heap s.heap [] := ⟨hI0, va_S.rf⟩
  clear hI0 hst0
  have hl := lv_entry ([.ref (a 0)]) (n := 2) (Nat.le_of_ble_eq_true rfl)
  rw [lg_entry_eq]
  generalize (lg_sl ([.ref (a 0)]) ++ List.replicate (2 - (lg_sl ([.ref (a 0)])).length) Slot.unset).toArray = ls at hl ⊢
  have hl : lv_has ls 2 [(0, .ref (a 0))] := hl
  generalize hZ : tz_MQ below (tq_Q (q_La_begin dC dI cI cJ a he dp co li op wd tl lc fo sf lf nf) (ga (adC a) s.heap.size)) ([.ref (a 0)] : List Value).toArray s 1 6 0 0 (ga (adC a) s.heap.size) = Z
  obtain ⟨A, hAe⟩ : ∃ A, A = ga (adC a) s.heap.size := ⟨_, rfl⟩
  rw [← hAe] at hst hAC hA0 hI hZ
  refine sv_start hI (fun H locs hI => ?_)
  obtain ⟨⟨o1, o2⟩, ⟨o3, o4⟩, ⟨o5, o6⟩, ⟨o7, o8⟩, ⟨o9, o10⟩, ⟨o11, o12⟩, ⟨o13, o14⟩, ⟨o15, o16⟩, ⟨o17, o18⟩, o19, -, -⟩ := id hok
  refine lv_aload_n hx hb d_La_begin_0 rfl (lv_at hl 0 rfl) ?_
  refine tz_call (A1 := ga (adC a) H.size) (tz_runV (C := "StoryMachine") (As := []) (rest := []) ⟨hx, hb, hml, hown, hts⟩ (c_SM_begin l hfl dC dI cI cJ a H.size he dp co li op wd tl lc fo sf lf nf  hok) (tx_cb (n := 0) hts rfl rfl ⟨Nat.le_of_ble_eq_true rfl, Nat.le_of_ble_eq_true rfl⟩ (tx_code.of (hts _ mw_436)) (hts _ mw_1) (by decide +kernel) (hts _ mw_433)) (hts _ mw_434) (hts _ mw_435) ⟨tz_blind, sv_recv (q0 := 0) hts in_SM hK hI kC_0 rfl, fun U hU hW => ⟨rfl, by rw [hU], by rw [hU]; exact hI.1, va_K.moved hW.alike hK, hst _ _ hI.2 U hU hW⟩⟩ rfl rfl hl.1 rfl (lv_room (Nat.le_of_ble_eq_true rfl)) d_La_begin_1 ⟨Nat.le_of_ble_eq_true rfl, Nat.le_of_ble_eq_true rfl⟩) hI.2 (fun q _ h => ga_sub hAC hA0 hI.2 q h) (ga_sub hAC hA0 hI.2) (fun v t H1 locs1 ht hWt hpost _ _ hS => ?_) (fun x t H1 locs1 ht hWt hpost _ _ hS => ?_)
  · rcases hpost.1 _ rfl with ⟨t_he20, t_dp21, t_tl22, f_nf23, hv, c24, c24_0, c24_1, c24_2, hI1⟩
    cases hv
    have hI : sI (dC, dI) vcl cI cJ (gsC a t_he20 t_dp21 co li op wd t_tl22 lc fo sf lf f_nf23) A s.heap H1 locs1 := ⟨by rw [← ht]; exact hI1, hS⟩
    obtain ⟨⟨o25, o26⟩, ⟨o27, o28⟩, -, -, -, -, ⟨o29, o30⟩, -, -, -, -, -⟩ := id c24
    clear hpost hI1 hS ht hWt
    revert hI; generalize H1 = H; generalize locs1 = locs; intro hI
    refine lv_goto (tgt := 10) hx hb d_La_begin_4 (by decide) ?_
    refine sn_iconst hx hb d_La_begin_10 (by decide) (fun z31 hz31 => ?_)
    refine W.widen (k := 1) (n := 6) (Nat.le_of_ble_eq_true rfl) (Nat.le_of_ble_eq_true rfl) ?_
    subst hZ
    exact tz_ret (W.iret (v := z31) hx hb hr (fun t ht hW => ⟨⟨fun v9 hv9 => by cases hv9; exact (⟨z31, t_he20, t_dp21, t_tl22, f_nf23, rfl, c24, by omega, by omega, by rw [ht]; exact hI.1⟩), fun x9 hx9 => (by cases hx9)⟩, hI.2.F ht⟩) hI.2.2.2 d_La_begin_11)
  · rcases hpost.2 _ rfl with ⟨hex, c32, hI1⟩
    have hI : sI (dC, dI) vcl cI cJ (gsC a he dp co li op wd tl lc fo sf lf nf) A s.heap H1 locs1 := ⟨by rw [← ht]; exact hI1, hS⟩
    obtain ⟨ce, hce, hcl, hvm⟩ := hex
    refine tx_catchN (own := "StoryMachineLaw") (C := "java/lang/IllegalStateException") (X := "java/lang/IllegalStateException") [] (tx_tab B (hts _ mw_431)) ((fun _ h => by cases h)) (by decide) (by decide) hown (hts _ mw_432) (by rw [← ht]; exact hce) (fun k h => by rw [hvm] at h; cases h) (by rw [← hWt.alike.findClass]; exact hcl) (hts _ mw_445) ?_
    clear hpost hI1 hS ht hWt hce hcl hvm
    revert hI; generalize H1 = H; generalize locs1 = locs; intro hI
    refine lv_astore_n (lv' := [(1, .ref x), (0, .ref (a 0))]) hx hb d_La_begin_7 rfl hl (by decide) rfl (fun ls hl => ?_)
    refine sn_iconst hx hb d_La_begin_8 (by decide) (fun z33 hz33 => ?_)
    subst hZ
    exact tz_ret (W.iret (v := z33) hx hb hr (fun t ht hW => ⟨⟨fun v9 hv9 => by cases hv9; exact (⟨z33, he, dp, tl, nf, rfl, c32, by omega, by omega, by rw [ht]; exact hI.1⟩), fun x9 hx9 => (by cases hx9)⟩, hI.2.F ht⟩) hI.2.2.2 d_La_begin_9)
abbrev q_La_type (dC : Nat → ClassId) (dI : Nat → Nat → Nat) (cI cJ : ClassId) (a : Nat → Nat) (he dp co li op wd tl lc fo : Int) (sf lf nf : Nat → Int32) (y1 : Int64) (x3 : Int32) : Outcome → State → Prop := fun o t => (∀ v, o = .returned v → ((∃ (z : Int32) (tl_ : Int), v = some (.int z) ∧ okC he dp co li op wd tl_ lc fo sf lf nf ∧ (0 ≤ z.toInt) ∧ (z.toInt ≤ 2) ∧ sh_I (dC, dI) vcl cI cJ (gsC a he dp co li op wd tl_ lc fo sf lf nf) t.heap))) ∧ (∀ x, o = .threw x → (False))
def rm_La_type : Room := { frames := 8, cells := 1, slots := 6, locals := 155 }
set_option maxHeartbeats 4000000 in
set_option maxRecDepth 100000 in
theorem c_La_type (l : Launch) (hfl : l.flags = pinnedFlags ++ [noTraceFlag]) (dC : Nat → ClassId) (dI : Nat → Nat → Nat) (cI cJ : ClassId) (a : Nat → Nat) (sz : Nat) (he dp co li op wd tl lc fo : Int) (sf lf nf : Nat → Int32) (y1 : Int64) (x3 : Int32) (hok : okC he dp co li op wd tl lc fo sf lf nf) : tz_Met l ⟨"StoryMachineLaw", "type", "(LStoryMachine;JI)I"⟩ tw_tbl rm_La_type (tzP (dC, dI) vcl cI cJ (gsC a he dp co li op wd tl lc fo sf lf nf) a (adC a) [.ref (a 0), .long y1, .int x3] sz) (tq_Q (q_La_type dC dI cI cJ a he dp co li op wd tl lc fo sf lf nf y1 x3) (ga (adC a) sz)) 1 6 0 0 (ga (adC a) sz) := by
  refine tz_ofW (cc := method_6_code) (maxL := 5) (ret := (some .int)) (by decide) (tx_isWM mw_472) ?_
  intro p e s m args below meth c s₁ B hml hv
  obtain ⟨rfl, hsz, hI0, hK, hst0⟩ := hv
  have hx := B.exec
  have hb := B.bytes
  have hr := B.returns
  have hts := atoms_spec (ws := tw_tbl) B.pre
  have hown : s.vm.findClass "StoryMachineLaw" = some m.cls := findClass_of_methodNamed B.named
  have hlocks := B.notSynchronized
  subst hsz
  have hst := fun (H : Heap) (locs : List Loc) (hS : va_S (ga (adC a) s.heap.size) s.heap H locs) (U : State) (hU : U.heap = H) (hW : s.WarmedH U.vm) => zS_all adC_map hI0 hst0 hS hU hW
  have hAC : ∀ q ∈ adC a, ga (adC a) s.heap.size q := fun q h => Or.inl h
  have hA0 : ∀ q, s.heap.size ≤ q → ga (adC a) s.heap.size q := fun q h => Or.inr h
  have hI : sI (dC, dI) vcl cI cJ (gsC a he dp co li op wd tl lc fo sf lf nf) (ga (adC a) s.heap.size) s.heap s.heap [] := ⟨hI0, va_S.rf⟩
  clear hI0 hst0
  have hl := lv_entry ([.ref (a 0), .long y1, .int x3]) (n := 5) (Nat.le_of_ble_eq_true rfl)
  rw [lg_entry_eq]
  generalize (lg_sl ([.ref (a 0), .long y1, .int x3]) ++ List.replicate (5 - (lg_sl ([.ref (a 0), .long y1, .int x3])).length) Slot.unset).toArray = ls at hl ⊢
  have hl : lv_has ls 5 [(0, .ref (a 0)), (1, .long y1), (3, .int x3)] := hl
  generalize hZ : tz_MQ below (tq_Q (q_La_type dC dI cI cJ a he dp co li op wd tl lc fo sf lf nf y1 x3) (ga (adC a) s.heap.size)) ([.ref (a 0), .long y1, .int x3] : List Value).toArray s 1 6 0 0 (ga (adC a) s.heap.size) = Z
  obtain ⟨A, hAe⟩ : ∃ A, A = ga (adC a) s.heap.size := ⟨_, rfl⟩
  rw [← hAe] at hst hAC hA0 hI hZ
  refine sv_start hI (fun H locs hI => ?_)
  obtain ⟨⟨o1, o2⟩, ⟨o3, o4⟩, ⟨o5, o6⟩, ⟨o7, o8⟩, ⟨o9, o10⟩, ⟨o11, o12⟩, ⟨o13, o14⟩, ⟨o15, o16⟩, ⟨o17, o18⟩, o19, -, -⟩ := id hok
  have gx3 := sn_rng x3
  refine lv_aload_n hx hb d_La_type_0 rfl (lv_at hl 0 rfl) ?_
  refine lv_lload_n hx hb d_La_type_1 rfl (lv_at hl 1 rfl) ?_
  refine lv_iload_n hx hb d_La_type_2 rfl (lv_at hl 2 rfl) ?_
  refine tz_call (A1 := ga (adC a) H.size) (tz_runV (C := "StoryMachine") (As := [.long y1, .int x3]) (rest := []) ⟨hx, hb, hml, hown, hts⟩ (c_SM_type l hfl dC dI cI cJ a H.size he dp co li op wd tl lc fo sf lf nf y1 x3 hok) (tx_cb (n := 2) hts rfl rfl ⟨Nat.le_of_ble_eq_true rfl, Nat.le_of_ble_eq_true rfl⟩ (tx_code.of (hts _ mw_476)) (hts _ mw_1) (by decide +kernel) (hts _ mw_473)) (hts _ mw_474) (hts _ mw_475) ⟨tz_blind, sv_recv (q0 := 0) hts in_SM hK hI kC_0 rfl, fun U hU hW => ⟨rfl, by rw [hU], by rw [hU]; exact hI.1, va_K.moved hW.alike hK, hst _ _ hI.2 U hU hW⟩⟩ rfl rfl hl.1 rfl (lv_room (Nat.le_of_ble_eq_true rfl)) d_La_type_3 ⟨Nat.le_of_ble_eq_true rfl, Nat.le_of_ble_eq_true rfl⟩) hI.2 (fun q _ h => ga_sub hAC hA0 hI.2 q h) (ga_sub hAC hA0 hI.2) (fun v t H1 locs1 ht hWt hpost _ _ hS => ?_) (fun x t H1 locs1 ht hWt hpost _ _ hS => ?_)
  · rcases hpost.1 _ rfl with ⟨t_tl20, hv, c21, c21_0, c21_1, hI1⟩
    cases hv
    have hI : sI (dC, dI) vcl cI cJ (gsC a he dp co li op wd t_tl20 lc fo sf lf nf) A s.heap H1 locs1 := ⟨by rw [← ht]; exact hI1, hS⟩
    obtain ⟨-, -, -, -, -, -, ⟨o22, o23⟩, -, -, -, -, -⟩ := id c21
    clear hpost hI1 hS ht hWt
    revert hI; generalize H1 = H; generalize locs1 = locs; intro hI
    refine lv_goto (tgt := 17) hx hb d_La_type_6 (by decide) ?_
    refine sn_iconst hx hb d_La_type_17 (by decide) (fun z24 hz24 => ?_)
    refine W.widen (k := 1) (n := 6) (Nat.le_of_ble_eq_true rfl) (Nat.le_of_ble_eq_true rfl) ?_
    subst hZ
    exact tz_ret (W.iret (v := z24) hx hb hr (fun t ht hW => ⟨⟨fun v9 hv9 => by cases hv9; exact (⟨z24, t_tl20, rfl, c21, by omega, by omega, by rw [ht]; exact hI.1⟩), fun x9 hx9 => (by cases hx9)⟩, hI.2.F ht⟩) hI.2.2.2 d_La_type_18)
  · rcases hpost.2 _ rfl with ⟨hex, c25, hI1⟩ | ⟨hex, c26, c26_0, c26_1, hI1⟩
    · have hI : sI (dC, dI) vcl cI cJ (gsC a he dp co li op wd tl lc fo sf lf nf) A s.heap H1 locs1 := ⟨by rw [← ht]; exact hI1, hS⟩
      obtain ⟨ce, hce, hcl, hvm⟩ := hex
      refine tx_catchN (own := "StoryMachineLaw") (C := "java/lang/IllegalArgumentException") (X := "java/lang/IllegalArgumentException") [] (tx_tab B (hts _ mw_472)) ((fun _ h => by cases h)) (by decide) (by decide) hown (hts _ mw_349) (by rw [← ht]; exact hce) (fun k h => by rw [hvm] at h; cases h) (by rw [← hWt.alike.findClass]; exact hcl) (hts _ mw_356) ?_
      clear hpost hI1 hS ht hWt hce hcl hvm
      revert hI; generalize H1 = H; generalize locs1 = locs; intro hI
      refine lv_astore (lv' := [(4, .ref x), (0, .ref (a 0)), (1, .long y1), (3, .int x3)]) hx hb d_La_type_9 hl (by decide) rfl (fun ls hl => ?_)
      refine sn_iconst hx hb d_La_type_11 (by decide) (fun z27 hz27 => ?_)
      subst hZ
      exact tz_ret (W.iret (v := z27) hx hb hr (fun t ht hW => ⟨⟨fun v9 hv9 => by cases hv9; exact (⟨z27, tl, rfl, c25, by omega, by omega, by rw [ht]; exact hI.1⟩), fun x9 hx9 => (by cases hx9)⟩, hI.2.F ht⟩) hI.2.2.2 d_La_type_12)
    · have hI : sI (dC, dI) vcl cI cJ (gsC a he dp co li op wd tl lc fo sf lf nf) A s.heap H1 locs1 := ⟨by rw [← ht]; exact hI1, hS⟩
      obtain ⟨ce, hce, hcl, hvm⟩ := hex
      refine tx_catchN (own := "StoryMachineLaw") (C := "java/lang/IllegalStateException") (X := "java/lang/IllegalStateException") [((0, 6, 9, 13), "java/lang/IllegalArgumentException")] (tx_tab B (hts _ mw_472)) (List.forall_mem_cons.mpr ⟨⟨by decide, by decide, hts _ mw_349, (hst _ [] va_S.rf s rfl (State.WarmedH.refl s)).1 _ _ (List.mem_of_getElem? (i := 4) rfl)⟩, (fun _ h => by cases h)⟩) (by decide) (by decide) hown (hts _ mw_432) (by rw [← ht]; exact hce) (fun k h => by rw [hvm] at h; cases h) (by rw [← hWt.alike.findClass]; exact hcl) (hts _ mw_445) ?_
      clear hpost hI1 hS ht hWt hce hcl hvm
      revert hI; generalize H1 = H; generalize locs1 = locs; intro hI
      refine lv_astore (lv' := [(4, .ref x), (0, .ref (a 0)), (1, .long y1), (3, .int x3)]) hx hb d_La_type_13 hl (by decide) rfl (fun ls hl => ?_)
      refine sn_iconst hx hb d_La_type_15 (by decide) (fun z28 hz28 => ?_)
      subst hZ
      exact tz_ret (W.iret (v := z28) hx hb hr (fun t ht hW => ⟨⟨fun v9 hv9 => by cases hv9; exact (⟨z28, tl, rfl, c26, by omega, by omega, by rw [ht]; exact hI.1⟩), fun x9 hx9 => (by cases hx9)⟩, hI.2.F ht⟩) hI.2.2.2 d_La_type_16)
abbrev q_La_run (dC : Nat → ClassId) (dI : Nat → Nat → Nat) (cI cJ : ClassId) (a : Nat → Nat) (he dp co li op wd tl lc fo : Int) (sf lf nf : Nat → Int32) (x1 : Int32) : Outcome → State → Prop := fun o t => (∀ v, o = .returned v → ((∃ (z : Int32) (he_ dp_ co_ li_ op_ wd_ lc_ fo_ : Int) (sf_ lf_ nf_ : Nat → Int32), v = some (.int z) ∧ okC he_ dp_ co_ li_ op_ wd_ tl lc_ fo_ sf_ lf_ nf_ ∧ (0 ≤ z.toInt) ∧ (z.toInt ≤ 2) ∧ sh_I (dC, dI) vcl cI cJ (gsC a he_ dp_ co_ li_ op_ wd_ tl lc_ fo_ sf_ lf_ nf_) t.heap))) ∧ (∀ x, o = .threw x → (False))
def rm_La_run : Room := { frames := 15, cells := 301, slots := 1806, locals := 306 }
set_option maxHeartbeats 4000000 in
set_option maxRecDepth 100000 in
theorem c_La_run (l : Launch) (hfl : l.flags = pinnedFlags ++ [noTraceFlag]) (dC : Nat → ClassId) (dI : Nat → Nat → Nat) (cI cJ : ClassId) (a : Nat → Nat) (sz : Nat) (he dp co li op wd tl lc fo : Int) (sf lf nf : Nat → Int32) (x1 : Int32) (hok : okC he dp co li op wd tl lc fo sf lf nf) : tz_Met l ⟨"StoryMachineLaw", "run", "(LStoryMachine;I[J)I"⟩ tw_tbl rm_La_run (tzP (dC, dI) vcl cI cJ (gsC a he dp co li op wd tl lc fo sf lf nf) a (adC a) [.ref (a 0), .int x1, .ref (a 35)] sz) (tq_Q (q_La_run dC dI cI cJ a he dp co li op wd tl lc fo sf lf nf x1) (ga (adC a) sz)) 301 1806 0 0 (ga (adC a) sz) := by
  refine tz_ofW (cc := method_7_code) (maxL := 4) (ret := (some .int)) (by decide) (tx_isWM mw_483) ?_
  intro p e s m args below meth c s₁ B hml hv
  obtain ⟨rfl, hsz, hI0, hK, hst0⟩ := hv
  have hx := B.exec
  have hb := B.bytes
  have hr := B.returns
  have hts := atoms_spec (ws := tw_tbl) B.pre
  have hown : s.vm.findClass "StoryMachineLaw" = some m.cls := findClass_of_methodNamed B.named
  have hlocks := B.notSynchronized
  subst hsz
  have hst := fun (H : Heap) (locs : List Loc) (hS : va_S (ga (adC a) s.heap.size) s.heap H locs) (U : State) (hU : U.heap = H) (hW : s.WarmedH U.vm) => zS_all adC_map hI0 hst0 hS hU hW
  have hAC : ∀ q ∈ adC a, ga (adC a) s.heap.size q := fun q h => Or.inl h
  have hA0 : ∀ q, s.heap.size ≤ q → ga (adC a) s.heap.size q := fun q h => Or.inr h
  have hI : sI (dC, dI) vcl cI cJ (gsC a he dp co li op wd tl lc fo sf lf nf) (ga (adC a) s.heap.size) s.heap s.heap [] := ⟨hI0, va_S.rf⟩
  clear hI0 hst0
  have hl := lv_entry ([.ref (a 0), .int x1, .ref (a 35)]) (n := 4) (Nat.le_of_ble_eq_true rfl)
  rw [lg_entry_eq]
  generalize (lg_sl ([.ref (a 0), .int x1, .ref (a 35)]) ++ List.replicate (4 - (lg_sl ([.ref (a 0), .int x1, .ref (a 35)])).length) Slot.unset).toArray = ls at hl ⊢
  have hl : lv_has ls 4 [(0, .ref (a 0)), (1, .int x1), (2, .ref (a 35))] := hl
  generalize hZ : tz_MQ below (tq_Q (q_La_run dC dI cI cJ a he dp co li op wd tl lc fo sf lf nf x1) (ga (adC a) s.heap.size)) ([.ref (a 0), .int x1, .ref (a 35)] : List Value).toArray s 301 1806 0 0 (ga (adC a) s.heap.size) = Z
  obtain ⟨A, hAe⟩ : ∃ A, A = ga (adC a) s.heap.size := ⟨_, rfl⟩
  rw [← hAe] at hst hAC hA0 hI hZ
  refine sv_start hI (fun H locs hI => ?_)
  obtain ⟨⟨o1, o2⟩, ⟨o3, o4⟩, ⟨o5, o6⟩, ⟨o7, o8⟩, ⟨o9, o10⟩, ⟨o11, o12⟩, ⟨o13, o14⟩, ⟨o15, o16⟩, ⟨o17, o18⟩, o19, -, -⟩ := id hok
  have gx1 := sn_rng x1
  refine lv_aload_n hx hb d_La_run_0 rfl (lv_at hl 2 rfl) ?_
  refine sn_iconst hx hb d_La_run_1 (by decide) (fun z20 hz20 => ?_)
  refine lv_aload_n hx hb d_La_run_2 rfl (lv_at hl 0 rfl) ?_
  refine lv_iload_n hx hb d_La_run_3 rfl (lv_at hl 1 rfl) ?_
  refine tz_call (A1 := ga (adC a) H.size) (tz_runV (C := "StoryMachine") (As := [.int x1]) (rest := [.int z20, .ref (a 35)]) ⟨hx, hb, hml, hown, hts⟩ (c_SM_run l hfl dC dI cI cJ a H.size he dp co li op wd tl lc fo sf lf nf x1 hok) (tx_cb (n := 1) hts rfl rfl ⟨Nat.le_of_ble_eq_true rfl, Nat.le_of_ble_eq_true rfl⟩ (tx_code.of (hts _ mw_487)) (hts _ mw_1) (by decide +kernel) (hts _ mw_484)) (hts _ mw_485) (hts _ mw_486) ⟨tz_blind, sv_recv (q0 := 0) hts in_SM hK hI kC_0 rfl, fun U hU hW => ⟨rfl, by rw [hU], by rw [hU]; exact hI.1, va_K.moved hW.alike hK, hst _ _ hI.2 U hU hW⟩⟩ rfl rfl hl.1 rfl (lv_room (Nat.le_of_ble_eq_true rfl)) d_La_run_4 ⟨Nat.le_of_ble_eq_true rfl, Nat.le_of_ble_eq_true rfl⟩) hI.2 (fun q _ h => ga_sub hAC hA0 hI.2 q h) (ga_sub hAC hA0 hI.2) (fun v t H1 locs1 ht hWt hpost _ _ hS => ?_) (fun x t H1 locs1 ht hWt hpost _ _ hS => ?_)
  · rcases hpost.1 _ rfl with ⟨z21, t_he22, t_dp23, t_co24, t_li25, t_op26, t_wd27, t_lc28, t_fo29, f_sf30, f_lf31, f_nf32, hv, c33, c33_0, c33_1, c33_2, c33_3, hI1⟩
    cases hv
    have hI : sI (dC, dI) vcl cI cJ (gsC a t_he22 t_dp23 t_co24 t_li25 t_op26 t_wd27 tl t_lc28 t_fo29 f_sf30 f_lf31 f_nf32) A s.heap H1 locs1 := ⟨by rw [← ht]; exact hI1, hS⟩
    obtain ⟨⟨o34, o35⟩, ⟨o36, o37⟩, ⟨o38, o39⟩, ⟨o40, o41⟩, ⟨o42, o43⟩, ⟨o44, o45⟩, -, ⟨o46, o47⟩, ⟨o48, o49⟩, o50, -, -⟩ := id c33
    clear hpost hI1 hS ht hWt
    revert hI; generalize H1 = H; generalize locs1 = locs; intro hI
    refine lv_i2l hx hb d_La_run_7 rfl ?_
    refine lv_topl (fun y51 hy51 => ?_)
    refine sv_last hx hb hK (sh_in adC_map hAC) hI 35 kC_35 (by omega) (by omega) pC_35 d_La_run_8 (fun H locs hI => ?_)
    refine lv_goto (tgt := 18) hx hb d_La_run_9 (by decide) ?_
    refine sn_iconst hx hb d_La_run_18 (by decide) (fun z52 hz52 => ?_)
    subst hZ
    exact tz_ret (W.iret (v := z52) hx hb hr (fun t ht hW => ⟨⟨fun v9 hv9 => by cases hv9; exact (⟨z52, t_he22, t_dp23, t_co24, t_li25, t_op26, t_wd27, t_lc28, t_fo29, f_sf30, f_lf31, f_nf32, rfl, c33, by omega, by omega, by rw [ht]; exact hI.1⟩), fun x9 hx9 => (by cases hx9)⟩, hI.2.F ht⟩) hI.2.2.2 d_La_run_19)
  · rcases hpost.2 _ rfl with ⟨hex, c53, hI1⟩ | ⟨hex, c54, c54_0, c54_1, hI1⟩
    · have hI : sI (dC, dI) vcl cI cJ (gsC a he dp co li op wd tl lc fo sf lf nf) A s.heap H1 locs1 := ⟨by rw [← ht]; exact hI1, hS⟩
      obtain ⟨ce, hce, hcl, hvm⟩ := hex
      refine tx_catchN (own := "StoryMachineLaw") (C := "java/lang/IllegalArgumentException") (X := "java/lang/IllegalArgumentException") [] (tx_tab B (hts _ mw_483)) ((fun _ h => by cases h)) (by decide) (by decide) hown (hts _ mw_349) (by rw [← ht]; exact hce) (fun k h => by rw [hvm] at h; cases h) (by rw [← hWt.alike.findClass]; exact hcl) (hts _ mw_356) ?_
      clear hpost hI1 hS ht hWt hce hcl hvm
      revert hI; generalize H1 = H; generalize locs1 = locs; intro hI
      refine lv_astore_n (lv' := [(3, .ref x), (0, .ref (a 0)), (1, .int x1), (2, .ref (a 35))]) hx hb d_La_run_12 rfl hl (by decide) rfl (fun ls hl => ?_)
      refine sn_iconst hx hb d_La_run_13 (by decide) (fun z55 hz55 => ?_)
      refine W.widen (k := 301) (n := 1806) (Nat.le_of_ble_eq_true rfl) (Nat.le_of_ble_eq_true rfl) ?_
      subst hZ
      exact tz_ret (W.iret (v := z55) hx hb hr (fun t ht hW => ⟨⟨fun v9 hv9 => by cases hv9; exact (⟨z55, he, dp, co, li, op, wd, lc, fo, sf, lf, nf, rfl, c53, by omega, by omega, by rw [ht]; exact hI.1⟩), fun x9 hx9 => (by cases hx9)⟩, hI.2.F ht⟩) hI.2.2.2 d_La_run_14)
    · have hI : sI (dC, dI) vcl cI cJ (gsC a he dp co li op wd tl lc fo sf lf nf) A s.heap H1 locs1 := ⟨by rw [← ht]; exact hI1, hS⟩
      obtain ⟨ce, hce, hcl, hvm⟩ := hex
      refine tx_catchN (own := "StoryMachineLaw") (C := "java/lang/IllegalStateException") (X := "java/lang/IllegalStateException") [((0, 9, 12, 13), "java/lang/IllegalArgumentException")] (tx_tab B (hts _ mw_483)) (List.forall_mem_cons.mpr ⟨⟨by decide, by decide, hts _ mw_349, (hst _ [] va_S.rf s rfl (State.WarmedH.refl s)).1 _ _ (List.mem_of_getElem? (i := 4) rfl)⟩, (fun _ h => by cases h)⟩) (by decide) (by decide) hown (hts _ mw_432) (by rw [← ht]; exact hce) (fun k h => by rw [hvm] at h; cases h) (by rw [← hWt.alike.findClass]; exact hcl) (hts _ mw_445) ?_
      clear hpost hI1 hS ht hWt hce hcl hvm
      revert hI; generalize H1 = H; generalize locs1 = locs; intro hI
      refine lv_astore_n (lv' := [(3, .ref x), (0, .ref (a 0)), (1, .int x1), (2, .ref (a 35))]) hx hb d_La_run_15 rfl hl (by decide) rfl (fun ls hl => ?_)
      refine sn_iconst hx hb d_La_run_16 (by decide) (fun z56 hz56 => ?_)
      refine W.widen (k := 301) (n := 1806) (Nat.le_of_ble_eq_true rfl) (Nat.le_of_ble_eq_true rfl) ?_
      subst hZ
      exact tz_ret (W.iret (v := z56) hx hb hr (fun t ht hW => ⟨⟨fun v9 hv9 => by cases hv9; exact (⟨z56, he, dp, co, li, op, wd, lc, fo, sf, lf, nf, rfl, c54, by omega, by omega, by rw [ht]; exact hI.1⟩), fun x9 hx9 => (by cases hx9)⟩, hI.2.F ht⟩) hI.2.2.2 d_La_run_17)
abbrev q_La_output (dC : Nat → ClassId) (dI : Nat → Nat → Nat) (cI cJ : ClassId) (a : Nat → Nat) (he dp co li op wd tl lc fo : Int) (sf lf nf : Nat → Int32) (x1 : Int32) : Outcome → State → Prop := fun o t => (∀ v, o = .returned v → ((∃ (z : Int32), v = some (.int z) ∧ okC he dp co li op wd tl lc fo sf lf nf ∧ (0 ≤ z.toInt) ∧ (z.toInt ≤ 1) ∧ sh_I (dC, dI) vcl cI cJ (gsC a he dp co li op wd tl lc fo sf lf nf) t.heap))) ∧ (∀ x, o = .threw x → (False))
def rm_La_output : Room := { frames := 8, cells := 1, slots := 6, locals := 151 }
set_option maxHeartbeats 4000000 in
set_option maxRecDepth 100000 in
theorem c_La_output (l : Launch) (hfl : l.flags = pinnedFlags ++ [noTraceFlag]) (dC : Nat → ClassId) (dI : Nat → Nat → Nat) (cI cJ : ClassId) (a : Nat → Nat) (sz : Nat) (he dp co li op wd tl lc fo : Int) (sf lf nf : Nat → Int32) (x1 : Int32) (hok : okC he dp co li op wd tl lc fo sf lf nf) : tz_Met l ⟨"StoryMachineLaw", "output", "(LStoryMachine;I[J)I"⟩ tw_tbl rm_La_output (tzP (dC, dI) vcl cI cJ (gsC a he dp co li op wd tl lc fo sf lf nf) a (adC a) [.ref (a 0), .int x1, .ref (a 35)] sz) (tq_Q (q_La_output dC dI cI cJ a he dp co li op wd tl lc fo sf lf nf x1) (ga (adC a) sz)) 1 6 0 0 (ga (adC a) sz) := by
  refine tz_ofW (cc := method_8_code) (maxL := 4) (ret := (some .int)) (by decide) (tx_isWM mw_1013) ?_
  intro p e s m args below meth c s₁ B hml hv
  obtain ⟨rfl, hsz, hI0, hK, hst0⟩ := hv
  have hx := B.exec
  have hb := B.bytes
  have hr := B.returns
  have hts := atoms_spec (ws := tw_tbl) B.pre
  have hown : s.vm.findClass "StoryMachineLaw" = some m.cls := findClass_of_methodNamed B.named
  have hlocks := B.notSynchronized
  subst hsz
  have hst := fun (H : Heap) (locs : List Loc) (hS : va_S (ga (adC a) s.heap.size) s.heap H locs) (U : State) (hU : U.heap = H) (hW : s.WarmedH U.vm) => zS_all adC_map hI0 hst0 hS hU hW
  have hAC : ∀ q ∈ adC a, ga (adC a) s.heap.size q := fun q h => Or.inl h
  have hA0 : ∀ q, s.heap.size ≤ q → ga (adC a) s.heap.size q := fun q h => Or.inr h
  have hI : sI (dC, dI) vcl cI cJ (gsC a he dp co li op wd tl lc fo sf lf nf) (ga (adC a) s.heap.size) s.heap s.heap [] := ⟨hI0, va_S.rf⟩
  clear hI0 hst0
  have hl := lv_entry ([.ref (a 0), .int x1, .ref (a 35)]) (n := 4) (Nat.le_of_ble_eq_true rfl)
  rw [lg_entry_eq]
  generalize (lg_sl ([.ref (a 0), .int x1, .ref (a 35)]) ++ List.replicate (4 - (lg_sl ([.ref (a 0), .int x1, .ref (a 35)])).length) Slot.unset).toArray = ls at hl ⊢
  have hl : lv_has ls 4 [(0, .ref (a 0)), (1, .int x1), (2, .ref (a 35))] := hl
  generalize hZ : tz_MQ below (tq_Q (q_La_output dC dI cI cJ a he dp co li op wd tl lc fo sf lf nf x1) (ga (adC a) s.heap.size)) ([.ref (a 0), .int x1, .ref (a 35)] : List Value).toArray s 1 6 0 0 (ga (adC a) s.heap.size) = Z
  obtain ⟨A, hAe⟩ : ∃ A, A = ga (adC a) s.heap.size := ⟨_, rfl⟩
  rw [← hAe] at hst hAC hA0 hI hZ
  refine sv_start hI (fun H locs hI => ?_)
  obtain ⟨⟨o1, o2⟩, ⟨o3, o4⟩, ⟨o5, o6⟩, ⟨o7, o8⟩, ⟨o9, o10⟩, ⟨o11, o12⟩, ⟨o13, o14⟩, ⟨o15, o16⟩, ⟨o17, o18⟩, o19, -, -⟩ := id hok
  have gx1 := sn_rng x1
  refine lv_aload_n hx hb d_La_output_0 rfl (lv_at hl 2 rfl) ?_
  refine sn_iconst hx hb d_La_output_1 (by decide) (fun z20 hz20 => ?_)
  refine lv_aload_n hx hb d_La_output_2 rfl (lv_at hl 0 rfl) ?_
  refine lv_iload_n hx hb d_La_output_3 rfl (lv_at hl 1 rfl) ?_
  refine tz_call (A1 := ga (adC a) H.size) (tz_runV (C := "StoryMachine") (As := [.int x1]) (rest := [.int z20, .ref (a 35)]) ⟨hx, hb, hml, hown, hts⟩ (c_SM_output l hfl dC dI cI cJ a H.size he dp co li op wd tl lc fo sf lf nf x1 hok) (tx_cb (n := 1) hts rfl rfl ⟨Nat.le_of_ble_eq_true rfl, Nat.le_of_ble_eq_true rfl⟩ (tx_code.of (hts _ mw_1018)) (hts _ mw_1) (by decide +kernel) (hts _ mw_1015)) (hts _ mw_1016) (hts _ mw_1017) ⟨tz_blind, sv_recv (q0 := 0) hts in_SM hK hI kC_0 rfl, fun U hU hW => ⟨rfl, by rw [hU], by rw [hU]; exact hI.1, va_K.moved hW.alike hK, hst _ _ hI.2 U hU hW⟩⟩ rfl rfl hl.1 rfl (lv_room (Nat.le_of_ble_eq_true rfl)) d_La_output_4 ⟨Nat.le_of_ble_eq_true rfl, Nat.le_of_ble_eq_true rfl⟩) hI.2 (fun q _ h => ga_sub hAC hA0 hI.2 q h) (ga_sub hAC hA0 hI.2) (fun v t H1 locs1 ht hWt hpost _ _ hS => ?_) (fun x t H1 locs1 ht hWt hpost _ _ hS => ?_)
  · rcases hpost.1 _ rfl with ⟨z21, hv, c22, c22_0, c22_1, c22_2, c22_3, hI1⟩
    cases hv
    have hI : sI (dC, dI) vcl cI cJ (gsC a he dp co li op wd tl lc fo sf lf nf) A s.heap H1 locs1 := ⟨by rw [← ht]; exact hI1, hS⟩
    clear hpost hI1 hS ht hWt
    revert hI; generalize H1 = H; generalize locs1 = locs; intro hI
    refine lv_i2l hx hb d_La_output_7 rfl ?_
    refine lv_topl (fun y23 hy23 => ?_)
    refine sv_last hx hb hK (sh_in adC_map hAC) hI 35 kC_35 (by omega) (by omega) pC_35 d_La_output_8 (fun H locs hI => ?_)
    refine lv_goto (tgt := 15) hx hb d_La_output_9 (by decide) ?_
    refine sn_iconst hx hb d_La_output_15 (by decide) (fun z24 hz24 => ?_)
    refine W.widen (k := 1) (n := 6) (Nat.le_of_ble_eq_true rfl) (Nat.le_of_ble_eq_true rfl) ?_
    subst hZ
    exact tz_ret (W.iret (v := z24) hx hb hr (fun t ht hW => ⟨⟨fun v9 hv9 => by cases hv9; exact (⟨z24, rfl, c22, by omega, by omega, by rw [ht]; exact hI.1⟩), fun x9 hx9 => (by cases hx9)⟩, hI.2.F ht⟩) hI.2.2.2 d_La_output_16)
  · rcases hpost.2 _ rfl with ⟨hex, c25, hI1⟩
    have hI : sI (dC, dI) vcl cI cJ (gsC a he dp co li op wd tl lc fo sf lf nf) A s.heap H1 locs1 := ⟨by rw [← ht]; exact hI1, hS⟩
    obtain ⟨ce, hce, hcl, hvm⟩ := hex
    refine tx_catchN (own := "StoryMachineLaw") (C := "java/lang/IndexOutOfBoundsException") (X := "java/lang/IndexOutOfBoundsException") [] (tx_tab B (hts _ mw_1013)) ((fun _ h => by cases h)) (by decide) (by decide) hown (hts _ mw_1014) (by rw [← ht]; exact hce) (fun k h => by rw [hvm] at h; cases h) (by rw [← hWt.alike.findClass]; exact hcl) (hts _ mw_1021) ?_
    clear hpost hI1 hS ht hWt hce hcl hvm
    revert hI; generalize H1 = H; generalize locs1 = locs; intro hI
    refine lv_astore_n (lv' := [(3, .ref x), (0, .ref (a 0)), (1, .int x1), (2, .ref (a 35))]) hx hb d_La_output_12 rfl hl (by decide) rfl (fun ls hl => ?_)
    refine sn_iconst hx hb d_La_output_13 (by decide) (fun z26 hz26 => ?_)
    subst hZ
    exact tz_ret (W.iret (v := z26) hx hb hr (fun t ht hW => ⟨⟨fun v9 hv9 => by cases hv9; exact (⟨z26, rfl, c25, by omega, by omega, by rw [ht]; exact hI.1⟩), fun x9 hx9 => (by cases hx9)⟩, hI.2.F ht⟩) hI.2.2.2 d_La_output_14)
