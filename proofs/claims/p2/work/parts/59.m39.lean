abbrev q_Mo_addLetter (dC : Nat → ClassId) (dI : Nat → Nat → Nat) (cI cJ : ClassId) (a : Nat → Nat) (th tr dp zi co sh lt ts : Int) (mf : Nat → Int32) (x1 : Int32) : Outcome → State → Prop := fun o t => (∀ v, o = .returned v → ((∃ (lt_ : Int), v = none ∧ okM th tr dp zi co sh lt_ ts mf ∧ (1 ≤ lt_) ∧ (lt_ = lt + 1) ∧ sh_I (dC, dI) vcl cI cJ (gsM a th tr dp zi co sh lt_ ts mf) t.heap))) ∧ (∀ x, o = .threw x → (False))
def rm_Mo_addLetter : Room := { frames := 0, cells := 0, slots := 0, locals := 0 }
set_option maxHeartbeats 4000000 in
set_option maxRecDepth 100000 in
theorem c_Mo_addLetter (l : Launch) (hfl : l.flags = pinnedFlags ++ [noTraceFlag]) (dC : Nat → ClassId) (dI : Nat → Nat → Nat) (cI cJ : ClassId) (a : Nat → Nat) (sz : Nat) (th tr dp zi co sh lt ts : Int) (mf : Nat → Int32) (x1 : Int32) (hok : okM th tr dp zi co sh lt ts mf) (hp0 : lt ≤ 999) : tz_Met l ⟨"StoryMachineModel", "addLetter", "(I)V"⟩ tw_tbl rm_Mo_addLetter (tzP (dC, dI) vcl cI cJ (gsM a th tr dp zi co sh lt ts mf) a (adM a) [.ref (a 0), .int x1] sz) (tq_Q (q_Mo_addLetter dC dI cI cJ a th tr dp zi co sh lt ts mf x1) (ga (adM a) sz)) 0 0 0 0 (ga (adM a) sz) := by
  refine tz_ofW (cc := prog_13_method_68_code) (maxL := 2) (ret := none) (by decide) (tx_isM mw_1484) ?_
  intro p e s m args below meth c s₁ B hml hv
  obtain ⟨rfl, hsz, hI0, hK, hst0⟩ := hv
  have hx := B.exec
  have hb := B.bytes
  have hr := B.returns
  have hts := atoms_spec (ws := tw_tbl) B.pre
  have hown : s.vm.findClass "StoryMachineModel" = some m.cls := findClass_of_methodNamed B.named
  have hlocks := B.notSynchronized
  subst hsz
  have hst := fun (H : Heap) (locs : List Loc) (hS : va_S (ga (adM a) s.heap.size) s.heap H locs) (U : State) (hU : U.heap = H) (hW : s.WarmedH U.vm) => zS_all adM_map hI0 hst0 hS hU hW
  have hAC : ∀ q ∈ adM a, ga (adM a) s.heap.size q := fun q h => Or.inl h
  have hA0 : ∀ q, s.heap.size ≤ q → ga (adM a) s.heap.size q := fun q h => Or.inr h
  have hI : sI (dC, dI) vcl cI cJ (gsM a th tr dp zi co sh lt ts mf) (ga (adM a) s.heap.size) s.heap s.heap [] := ⟨hI0, va_S.rf⟩
  clear hI0 hst0
  have hl := lv_entry ([.ref (a 0), .int x1]) (n := 2) (Nat.le_of_ble_eq_true rfl)
  rw [lg_entry_eq]
  generalize (lg_sl ([.ref (a 0), .int x1]) ++ List.replicate (2 - (lg_sl ([.ref (a 0), .int x1])).length) Slot.unset).toArray = ls at hl ⊢
  have hl : lv_has ls 2 [(0, .ref (a 0)), (1, .int x1)] := hl
  generalize hZ : tz_MQ below (tq_Q (q_Mo_addLetter dC dI cI cJ a th tr dp zi co sh lt ts mf x1) (ga (adM a) s.heap.size)) ([.ref (a 0), .int x1] : List Value).toArray s 0 0 0 0 (ga (adM a) s.heap.size) = Z
  obtain ⟨A, hAe⟩ : ∃ A, A = ga (adM a) s.heap.size := ⟨_, rfl⟩
  rw [← hAe] at hst hAC hA0 hI hZ
  refine sv_start hI (fun H locs hI => ?_)
  obtain ⟨⟨o1, o2⟩, ⟨o3, o4⟩, ⟨o5, o6⟩, ⟨o7, o8⟩, ⟨o9, o10⟩, ⟨o11, o12⟩, ⟨o13, o14⟩, ⟨o15, o16⟩, -⟩ := id hok
  have gx1 := sn_rng x1
  have j19u : ∀ (H : Heap) (locs : List Loc) (ls : Array Slot), sI (dC, dI) vcl cI cJ (gsM a th tr dp zi co sh lt ts mf) A s.heap H locs → okM th tr dp zi co sh lt ts mf → lv_has ls 2 [(0, .ref (a 0)), (1, .int x1)] → W p l e (headSpec tw_tbl rm_Mo_addLetter).room s m ([.ref (a 0), .int x1] : List Value).toArray below meth c H locs 0 0 Z (F0 m 19 ls []) := by
    intro H locs ls hI hok hl
    obtain ⟨⟨o17, o18⟩, ⟨o19, o20⟩, ⟨o21, o22⟩, ⟨o23, o24⟩, ⟨o25, o26⟩, ⟨o27, o28⟩, ⟨o29, o30⟩, ⟨o31, o32⟩, -⟩ := id hok
    refine lv_aload_n hx hb d_Mo_addLetter_19 rfl (lv_at hl 0 rfl) ?_
    refine lv_dup hx hb d_Mo_addLetter_20 rfl ?_
    refine sv_gete (C := "StoryMachineModel") (T := T_Mo) (N := 51) hx hb hts in_Mo hown hK hI 0 kM_0 rfl 47 (by decide) (hts _ mw_1110) rfl d_Mo_addLetter_21 (fun z33 hz33 => ?_)
    refine sn_iconst hx hb d_Mo_addLetter_24 (by decide) (fun z34 hz34 => ?_)
    refine sn_iadd hx hb d_Mo_addLetter_25 (by omega) (by omega) (fun z35 hz35 => ?_)
    refine sv_put (C := "StoryMachineModel") (T := T_Mo) (N := 51) (ty := .int) hx hb hts in_Mo t_Mo tk_Mo nm_Mo hown hK (sh_in adM_map hAC) hI 0 kM_0 rfl 47 (by decide) (hts _ mw_1110) rfl (by decide +kernel) rfl rfl (Nat.le_of_ble_eq_true rfl) (Int.le_refl _) (Int.le_refl _) pM_0_47 d_Mo_addLetter_26 (fun H locs hI => ?_)
    have ho36 : okM th tr dp zi co sh z35.toInt ts mf := ⟨hok.1, hok.2.1, hok.2.2.1, hok.2.2.2.1, hok.2.2.2.2.1, hok.2.2.2.2.2.1, ⟨by omega, by omega⟩, hok.2.2.2.2.2.2.2.1, hok.2.2.2.2.2.2.2.2⟩
    subst hZ
    exact tz_ret (W.vret hx hb hr (fun t ht hW => ⟨⟨fun v9 hv9 => by cases hv9; exact (⟨z35.toInt, rfl, ho36, by omega, by omega, by rw [ht]; exact hI.1⟩), fun x9 hx9 => (by cases hx9)⟩, hI.2.F ht⟩) hI.2.2.2 d_Mo_addLetter_29)
  refine lv_aload_n hx hb d_Mo_addLetter_0 rfl (lv_at hl 0 rfl) ?_
  refine sv_gete (C := "StoryMachineModel") (T := T_Mo) (N := 51) hx hb hts in_Mo hown hK hI 0 kM_0 rfl 47 (by decide) (hts _ mw_1110) rfl d_Mo_addLetter_1 (fun z37 hz37 => ?_)
  refine sn_bipush hx hb d_Mo_addLetter_4 (by decide) (fun z38 hz38 => ?_)
  refine sn_icmp_ge (tgt := 19) hx hb d_Mo_addLetter_6 (by decide) (fun b39 => ?_) (fun b39 => ?_)
  · exact j19u _ _ _  hI hok (lv_sub hl [0, 1] rfl)
  · refine lv_aload_n hx hb d_Mo_addLetter_9 rfl (lv_at hl 0 rfl) ?_
    refine sv_getr (C := "StoryMachineModel") (T := T_Mo) (N := 51) hx hb hts in_Mo hown hK hI 0 kM_0 rfl 48 (by decide) (hts _ mw_1111) rfl d_Mo_addLetter_10 ?_
    refine lv_aload_n hx hb d_Mo_addLetter_13 rfl (lv_at hl 0 rfl) ?_
    refine sv_gete (C := "StoryMachineModel") (T := T_Mo) (N := 51) hx hb hts in_Mo hown hK hI 0 kM_0 rfl 47 (by decide) (hts _ mw_1110) rfl d_Mo_addLetter_14 (fun z40 hz40 => ?_)
    refine lv_iload_n hx hb d_Mo_addLetter_17 rfl (lv_at hl 1 rfl) ?_
    refine sv_iastr hx hb hK (sh_in adM_map hAC) hI 19 kM_19 (by omega) (by omega) (by omega) (by omega) pM_19 d_Mo_addLetter_18 (fun H locs hI => ?_)
    exact j19u _ _ _  hI hok (lv_sub hl [0, 1] rfl)
abbrev q_Mo_sign (dC : Nat → ClassId) (dI : Nat → Nat → Nat) (cI cJ : ClassId) (a : Nat → Nat) (th tr dp zi co sh lt ts : Int) (mf : Nat → Int32) (x0 : Int32) : Outcome → State → Prop := fun o t => (∀ v, o = .returned v → ((∃ (z : Int32), v = some (.int z) ∧ okM th tr dp zi co sh lt ts mf ∧ ((-2147483600) ≤ z.toInt) ∧ (z.toInt ≤ 95) ∧ sh_I (dC, dI) vcl cI cJ (gsM a th tr dp zi co sh lt ts mf) t.heap))) ∧ (∀ x, o = .threw x → (False))
def rm_Mo_sign : Room := { frames := 0, cells := 0, slots := 0, locals := 0 }
set_option maxHeartbeats 4000000 in
set_option maxRecDepth 100000 in
theorem c_Mo_sign (l : Launch) (hfl : l.flags = pinnedFlags ++ [noTraceFlag]) (dC : Nat → ClassId) (dI : Nat → Nat → Nat) (cI cJ : ClassId) (a : Nat → Nat) (sz : Nat) (th tr dp zi co sh lt ts : Int) (mf : Nat → Int32) (x0 : Int32) (hok : okM th tr dp zi co sh lt ts mf) : tz_Met l ⟨"StoryMachineModel", "sign", "(I)I"⟩ tw_tbl rm_Mo_sign (tzP (dC, dI) vcl cI cJ (gsM a th tr dp zi co sh lt ts mf) a (adM a) [.int x0] sz) (tq_Q (q_Mo_sign dC dI cI cJ a th tr dp zi co sh lt ts mf x0) (ga (adM a) sz)) 0 0 0 0 (ga (adM a) sz) := by
  refine tz_ofW (cc := prog_13_method_18_code) (maxL := 1) (ret := (some .int)) (by decide) (tx_isM mw_1413) ?_
  intro p e s m args below meth c s₁ B hml hv
  obtain ⟨rfl, hsz, hI0, hK, hst0⟩ := hv
  have hx := B.exec
  have hb := B.bytes
  have hr := B.returns
  have hts := atoms_spec (ws := tw_tbl) B.pre
  have hown : s.vm.findClass "StoryMachineModel" = some m.cls := findClass_of_methodNamed B.named
  have hlocks := B.notSynchronized
  subst hsz
  have hst := fun (H : Heap) (locs : List Loc) (hS : va_S (ga (adM a) s.heap.size) s.heap H locs) (U : State) (hU : U.heap = H) (hW : s.WarmedH U.vm) => zS_all adM_map hI0 hst0 hS hU hW
  have hAC : ∀ q ∈ adM a, ga (adM a) s.heap.size q := fun q h => Or.inl h
  have hA0 : ∀ q, s.heap.size ≤ q → ga (adM a) s.heap.size q := fun q h => Or.inr h
  have hI : sI (dC, dI) vcl cI cJ (gsM a th tr dp zi co sh lt ts mf) (ga (adM a) s.heap.size) s.heap s.heap [] := ⟨hI0, va_S.rf⟩
  clear hI0 hst0
  have hl := lv_entry ([.int x0]) (n := 1) (Nat.le_of_ble_eq_true rfl)
  rw [lg_entry_eq]
  generalize (lg_sl ([.int x0]) ++ List.replicate (1 - (lg_sl ([.int x0])).length) Slot.unset).toArray = ls at hl ⊢
  have hl : lv_has ls 1 [(0, .int x0)] := hl
  generalize hZ : tz_MQ below (tq_Q (q_Mo_sign dC dI cI cJ a th tr dp zi co sh lt ts mf x0) (ga (adM a) s.heap.size)) ([.int x0] : List Value).toArray s 0 0 0 0 (ga (adM a) s.heap.size) = Z
  obtain ⟨A, hAe⟩ : ∃ A, A = ga (adM a) s.heap.size := ⟨_, rfl⟩
  rw [← hAe] at hst hAC hA0 hI hZ
  refine sv_start hI (fun H locs hI => ?_)
  obtain ⟨⟨o1, o2⟩, ⟨o3, o4⟩, ⟨o5, o6⟩, ⟨o7, o8⟩, ⟨o9, o10⟩, ⟨o11, o12⟩, ⟨o13, o14⟩, ⟨o15, o16⟩, -⟩ := id hok
  have gx0 := sn_rng x0
  refine lv_iload_n hx hb d_Mo_sign_0 rfl (lv_at hl 0 rfl) ?_
  refine sn_bipush hx hb d_Mo_sign_1 (by decide) (fun z17 hz17 => ?_)
  refine sn_icmp_ge (tgt := 11) hx hb d_Mo_sign_3 (by decide) (fun b18 => ?_) (fun b18 => ?_)
  · refine lv_iload_n hx hb d_Mo_sign_11 rfl (lv_at hl 0 rfl) ?_
    refine sn_bipush hx hb d_Mo_sign_12 (by decide) (fun z19 hz19 => ?_)
    refine sn_icmp_ge (tgt := 86) hx hb d_Mo_sign_14 (by decide) (fun b20 => ?_) (fun b20 => ?_)
    · refine lv_iload_n hx hb d_Mo_sign_86 rfl (lv_at hl 0 rfl) ?_
      refine sn_bipush hx hb d_Mo_sign_87 (by decide) (fun z21 hz21 => ?_)
      refine sn_icmp_ne (tgt := 97) hx hb d_Mo_sign_89 (by decide) (fun b22 => ?_) (fun b22 => ?_)
      · refine lv_iload_n hx hb d_Mo_sign_97 rfl (lv_at hl 0 rfl) ?_
        refine sn_bipush hx hb d_Mo_sign_98 (by decide) (fun z23 hz23 => ?_)
        refine sn_icmp_ne (tgt := 108) hx hb d_Mo_sign_100 (by decide) (fun b24 => ?_) (fun b24 => ?_)
        · refine lv_iload_n hx hb d_Mo_sign_108 rfl (lv_at hl 0 rfl) ?_
          refine sn_bipush hx hb d_Mo_sign_109 (by decide) (fun z25 hz25 => ?_)
          refine sn_icmp_ne (tgt := 119) hx hb d_Mo_sign_111 (by decide) (fun b26 => ?_) (fun b26 => ?_)
          · refine lv_iload_n hx hb d_Mo_sign_119 rfl (lv_at hl 0 rfl) ?_
            refine sn_bipush hx hb d_Mo_sign_120 (by decide) (fun z27 hz27 => ?_)
            refine sn_icmp_ne (tgt := 130) hx hb d_Mo_sign_122 (by decide) (fun b28 => ?_) (fun b28 => ?_)
            · refine lv_iload_n hx hb d_Mo_sign_130 rfl (lv_at hl 0 rfl) ?_
              refine sn_bipush hx hb d_Mo_sign_131 (by decide) (fun z29 hz29 => ?_)
              refine sn_icmp_ne (tgt := 141) hx hb d_Mo_sign_133 (by decide) (fun b30 => ?_) (fun b30 => ?_)
              · refine lv_iload_n hx hb d_Mo_sign_141 rfl (lv_at hl 0 rfl) ?_
                refine sn_bipush hx hb d_Mo_sign_142 (by decide) (fun z31 hz31 => ?_)
                refine sn_icmp_ne (tgt := 152) hx hb d_Mo_sign_144 (by decide) (fun b32 => ?_) (fun b32 => ?_)
                · refine sn_bipush hx hb d_Mo_sign_152 (by decide) (fun z33 hz33 => ?_)
                  subst hZ
                  exact tz_ret (W.iret (v := z33) hx hb hr (fun t ht hW => ⟨⟨fun v9 hv9 => by cases hv9; exact (⟨z33, rfl, hok, by omega, by omega, by rw [ht]; exact hI.1⟩), fun x9 hx9 => (by cases hx9)⟩, hI.2.F ht⟩) hI.2.2.2 d_Mo_sign_154)
                · refine sn_bipush hx hb d_Mo_sign_147 (by decide) (fun z34 hz34 => ?_)
                  refine lv_goto (tgt := 154) hx hb d_Mo_sign_149 (by decide) ?_
                  subst hZ
                  exact tz_ret (W.iret (v := z34) hx hb hr (fun t ht hW => ⟨⟨fun v9 hv9 => by cases hv9; exact (⟨z34, rfl, hok, by omega, by omega, by rw [ht]; exact hI.1⟩), fun x9 hx9 => (by cases hx9)⟩, hI.2.F ht⟩) hI.2.2.2 d_Mo_sign_154)
              · refine sn_bipush hx hb d_Mo_sign_136 (by decide) (fun z35 hz35 => ?_)
                refine lv_goto (tgt := 154) hx hb d_Mo_sign_138 (by decide) ?_
                subst hZ
                exact tz_ret (W.iret (v := z35) hx hb hr (fun t ht hW => ⟨⟨fun v9 hv9 => by cases hv9; exact (⟨z35, rfl, hok, by omega, by omega, by rw [ht]; exact hI.1⟩), fun x9 hx9 => (by cases hx9)⟩, hI.2.F ht⟩) hI.2.2.2 d_Mo_sign_154)
            · refine sn_bipush hx hb d_Mo_sign_125 (by decide) (fun z36 hz36 => ?_)
              refine lv_goto (tgt := 154) hx hb d_Mo_sign_127 (by decide) ?_
              subst hZ
              exact tz_ret (W.iret (v := z36) hx hb hr (fun t ht hW => ⟨⟨fun v9 hv9 => by cases hv9; exact (⟨z36, rfl, hok, by omega, by omega, by rw [ht]; exact hI.1⟩), fun x9 hx9 => (by cases hx9)⟩, hI.2.F ht⟩) hI.2.2.2 d_Mo_sign_154)
          · refine sn_bipush hx hb d_Mo_sign_114 (by decide) (fun z37 hz37 => ?_)
            refine lv_goto (tgt := 154) hx hb d_Mo_sign_116 (by decide) ?_
            subst hZ
            exact tz_ret (W.iret (v := z37) hx hb hr (fun t ht hW => ⟨⟨fun v9 hv9 => by cases hv9; exact (⟨z37, rfl, hok, by omega, by omega, by rw [ht]; exact hI.1⟩), fun x9 hx9 => (by cases hx9)⟩, hI.2.F ht⟩) hI.2.2.2 d_Mo_sign_154)
        · refine sn_bipush hx hb d_Mo_sign_103 (by decide) (fun z38 hz38 => ?_)
          refine lv_goto (tgt := 154) hx hb d_Mo_sign_105 (by decide) ?_
          subst hZ
          exact tz_ret (W.iret (v := z38) hx hb hr (fun t ht hW => ⟨⟨fun v9 hv9 => by cases hv9; exact (⟨z38, rfl, hok, by omega, by omega, by rw [ht]; exact hI.1⟩), fun x9 hx9 => (by cases hx9)⟩, hI.2.F ht⟩) hI.2.2.2 d_Mo_sign_154)
      · refine sn_bipush hx hb d_Mo_sign_92 (by decide) (fun z39 hz39 => ?_)
        refine lv_goto (tgt := 154) hx hb d_Mo_sign_94 (by decide) ?_
        subst hZ
        exact tz_ret (W.iret (v := z39) hx hb hr (fun t ht hW => ⟨⟨fun v9 hv9 => by cases hv9; exact (⟨z39, rfl, hok, by omega, by omega, by rw [ht]; exact hI.1⟩), fun x9 hx9 => (by cases hx9)⟩, hI.2.F ht⟩) hI.2.2.2 d_Mo_sign_154)
    · refine lv_iload_n hx hb d_Mo_sign_17 rfl (lv_at hl 0 rfl) ?_
      refine sn_bipush hx hb d_Mo_sign_18 (by decide) (fun z40 hz40 => ?_)
      refine sn_icmp_ne (tgt := 28) hx hb d_Mo_sign_20 (by decide) (fun b41 => ?_) (fun b41 => ?_)
      · refine lv_iload_n hx hb d_Mo_sign_28 rfl (lv_at hl 0 rfl) ?_
        refine sn_bipush hx hb d_Mo_sign_29 (by decide) (fun z42 hz42 => ?_)
        refine sn_icmp_ne (tgt := 39) hx hb d_Mo_sign_31 (by decide) (fun b43 => ?_) (fun b43 => ?_)
        · refine lv_iload_n hx hb d_Mo_sign_39 rfl (lv_at hl 0 rfl) ?_
          refine sn_bipush hx hb d_Mo_sign_40 (by decide) (fun z44 hz44 => ?_)
          refine sn_icmp_ne (tgt := 50) hx hb d_Mo_sign_42 (by decide) (fun b45 => ?_) (fun b45 => ?_)
          · refine lv_iload_n hx hb d_Mo_sign_50 rfl (lv_at hl 0 rfl) ?_
            refine sn_bipush hx hb d_Mo_sign_51 (by decide) (fun z46 hz46 => ?_)
            refine sn_icmp_ne (tgt := 61) hx hb d_Mo_sign_53 (by decide) (fun b47 => ?_) (fun b47 => ?_)
            · refine lv_iload_n hx hb d_Mo_sign_61 rfl (lv_at hl 0 rfl) ?_
              refine sn_bipush hx hb d_Mo_sign_62 (by decide) (fun z48 hz48 => ?_)
              refine sn_icmp_ne (tgt := 72) hx hb d_Mo_sign_64 (by decide) (fun b49 => ?_) (fun b49 => ?_)
              · refine lv_iload_n hx hb d_Mo_sign_72 rfl (lv_at hl 0 rfl) ?_
                refine sn_bipush hx hb d_Mo_sign_73 (by decide) (fun z50 hz50 => ?_)
                refine sn_icmp_ne (tgt := 83) hx hb d_Mo_sign_75 (by decide) (fun b51 => ?_) (fun b51 => ?_)
                · refine sn_bipush hx hb d_Mo_sign_83 (by decide) (fun z52 hz52 => ?_)
                  subst hZ
                  exact tz_ret (W.iret (v := z52) hx hb hr (fun t ht hW => ⟨⟨fun v9 hv9 => by cases hv9; exact (⟨z52, rfl, hok, by omega, by omega, by rw [ht]; exact hI.1⟩), fun x9 hx9 => (by cases hx9)⟩, hI.2.F ht⟩) hI.2.2.2 d_Mo_sign_85)
                · refine sn_bipush hx hb d_Mo_sign_78 (by decide) (fun z53 hz53 => ?_)
                  refine lv_goto (tgt := 85) hx hb d_Mo_sign_80 (by decide) ?_
                  subst hZ
                  exact tz_ret (W.iret (v := z53) hx hb hr (fun t ht hW => ⟨⟨fun v9 hv9 => by cases hv9; exact (⟨z53, rfl, hok, by omega, by omega, by rw [ht]; exact hI.1⟩), fun x9 hx9 => (by cases hx9)⟩, hI.2.F ht⟩) hI.2.2.2 d_Mo_sign_85)
              · refine sn_bipush hx hb d_Mo_sign_67 (by decide) (fun z54 hz54 => ?_)
                refine lv_goto (tgt := 85) hx hb d_Mo_sign_69 (by decide) ?_
                subst hZ
                exact tz_ret (W.iret (v := z54) hx hb hr (fun t ht hW => ⟨⟨fun v9 hv9 => by cases hv9; exact (⟨z54, rfl, hok, by omega, by omega, by rw [ht]; exact hI.1⟩), fun x9 hx9 => (by cases hx9)⟩, hI.2.F ht⟩) hI.2.2.2 d_Mo_sign_85)
            · refine sn_bipush hx hb d_Mo_sign_56 (by decide) (fun z55 hz55 => ?_)
              refine lv_goto (tgt := 85) hx hb d_Mo_sign_58 (by decide) ?_
              subst hZ
              exact tz_ret (W.iret (v := z55) hx hb hr (fun t ht hW => ⟨⟨fun v9 hv9 => by cases hv9; exact (⟨z55, rfl, hok, by omega, by omega, by rw [ht]; exact hI.1⟩), fun x9 hx9 => (by cases hx9)⟩, hI.2.F ht⟩) hI.2.2.2 d_Mo_sign_85)
          · refine sn_bipush hx hb d_Mo_sign_45 (by decide) (fun z56 hz56 => ?_)
            refine lv_goto (tgt := 85) hx hb d_Mo_sign_47 (by decide) ?_
            subst hZ
            exact tz_ret (W.iret (v := z56) hx hb hr (fun t ht hW => ⟨⟨fun v9 hv9 => by cases hv9; exact (⟨z56, rfl, hok, by omega, by omega, by rw [ht]; exact hI.1⟩), fun x9 hx9 => (by cases hx9)⟩, hI.2.F ht⟩) hI.2.2.2 d_Mo_sign_85)
        · refine sn_bipush hx hb d_Mo_sign_34 (by decide) (fun z57 hz57 => ?_)
          refine lv_goto (tgt := 85) hx hb d_Mo_sign_36 (by decide) ?_
          subst hZ
          exact tz_ret (W.iret (v := z57) hx hb hr (fun t ht hW => ⟨⟨fun v9 hv9 => by cases hv9; exact (⟨z57, rfl, hok, by omega, by omega, by rw [ht]; exact hI.1⟩), fun x9 hx9 => (by cases hx9)⟩, hI.2.F ht⟩) hI.2.2.2 d_Mo_sign_85)
      · refine sn_bipush hx hb d_Mo_sign_23 (by decide) (fun z58 hz58 => ?_)
        refine lv_goto (tgt := 85) hx hb d_Mo_sign_25 (by decide) ?_
        subst hZ
        exact tz_ret (W.iret (v := z58) hx hb hr (fun t ht hW => ⟨⟨fun v9 hv9 => by cases hv9; exact (⟨z58, rfl, hok, by omega, by omega, by rw [ht]; exact hI.1⟩), fun x9 hx9 => (by cases hx9)⟩, hI.2.F ht⟩) hI.2.2.2 d_Mo_sign_85)
  · refine sn_bipush hx hb d_Mo_sign_6 (by decide) (fun z59 hz59 => ?_)
    refine lv_iload_n hx hb d_Mo_sign_8 rfl (lv_at hl 0 rfl) ?_
    refine sn_iadd hx hb d_Mo_sign_9 (by omega) (by omega) (fun z60 hz60 => ?_)
    subst hZ
    exact tz_ret (W.iret (v := z60) hx hb hr (fun t ht hW => ⟨⟨fun v9 hv9 => by cases hv9; exact (⟨z60, rfl, hok, by omega, by omega, by rw [ht]; exact hI.1⟩), fun x9 hx9 => (by cases hx9)⟩, hI.2.F ht⟩) hI.2.2.2 d_Mo_sign_10)
abbrev q_Mo_addCharacter (dC : Nat → ClassId) (dI : Nat → Nat → Nat) (cI cJ : ClassId) (a : Nat → Nat) (th tr dp zi co sh lt ts : Int) (mf : Nat → Int32) (x1 : Int32) : Outcome → State → Prop := fun o t => (∀ v, o = .returned v → ((∃ (lt_ : Int), v = none ∧ okM th tr dp zi co sh lt_ ts mf ∧ (1 ≤ lt_) ∧ (lt_ ≤ lt + 4) ∧ sh_I (dC, dI) vcl cI cJ (gsM a th tr dp zi co sh lt_ ts mf) t.heap))) ∧ (∀ x, o = .threw x → (False))
def rm_Mo_addCharacter : Room := { frames := 1, cells := 0, slots := 0, locals := 21 }
set_option maxHeartbeats 4000000 in
set_option maxRecDepth 100000 in
theorem c_Mo_addCharacter (l : Launch) (hfl : l.flags = pinnedFlags ++ [noTraceFlag]) (dC : Nat → ClassId) (dI : Nat → Nat → Nat) (cI cJ : ClassId) (a : Nat → Nat) (sz : Nat) (th tr dp zi co sh lt ts : Int) (mf : Nat → Int32) (x1 : Int32) (hok : okM th tr dp zi co sh lt ts mf) (hp0 : 0 ≤ x1.toInt) (hp1 : x1.toInt ≤ 255) (hp2 : lt ≤ 990) : tz_Met l ⟨"StoryMachineModel", "addCharacter", "(I)V"⟩ tw_tbl rm_Mo_addCharacter (tzP (dC, dI) vcl cI cJ (gsM a th tr dp zi co sh lt ts mf) a (adM a) [.ref (a 0), .int x1] sz) (tq_Q (q_Mo_addCharacter dC dI cI cJ a th tr dp zi co sh lt ts mf x1) (ga (adM a) sz)) 0 0 0 0 (ga (adM a) sz) := by
  refine tz_ofW (cc := prog_13_method_69_code) (maxL := 3) (ret := none) (by decide) (tx_isM mw_1480) ?_
  intro p e s m args below meth c s₁ B hml hv
  obtain ⟨rfl, hsz, hI0, hK, hst0⟩ := hv
  have hx := B.exec
  have hb := B.bytes
  have hr := B.returns
  have hts := atoms_spec (ws := tw_tbl) B.pre
  have hown : s.vm.findClass "StoryMachineModel" = some m.cls := findClass_of_methodNamed B.named
  have hlocks := B.notSynchronized
  subst hsz
  have hst := fun (H : Heap) (locs : List Loc) (hS : va_S (ga (adM a) s.heap.size) s.heap H locs) (U : State) (hU : U.heap = H) (hW : s.WarmedH U.vm) => zS_all adM_map hI0 hst0 hS hU hW
  have hAC : ∀ q ∈ adM a, ga (adM a) s.heap.size q := fun q h => Or.inl h
  have hA0 : ∀ q, s.heap.size ≤ q → ga (adM a) s.heap.size q := fun q h => Or.inr h
  have hI : sI (dC, dI) vcl cI cJ (gsM a th tr dp zi co sh lt ts mf) (ga (adM a) s.heap.size) s.heap s.heap [] := ⟨hI0, va_S.rf⟩
  clear hI0 hst0
  have hl := lv_entry ([.ref (a 0), .int x1]) (n := 3) (Nat.le_of_ble_eq_true rfl)
  rw [lg_entry_eq]
  generalize (lg_sl ([.ref (a 0), .int x1]) ++ List.replicate (3 - (lg_sl ([.ref (a 0), .int x1])).length) Slot.unset).toArray = ls at hl ⊢
  have hl : lv_has ls 3 [(0, .ref (a 0)), (1, .int x1)] := hl
  generalize hZ : tz_MQ below (tq_Q (q_Mo_addCharacter dC dI cI cJ a th tr dp zi co sh lt ts mf x1) (ga (adM a) s.heap.size)) ([.ref (a 0), .int x1] : List Value).toArray s 0 0 0 0 (ga (adM a) s.heap.size) = Z
  obtain ⟨A, hAe⟩ : ∃ A, A = ga (adM a) s.heap.size := ⟨_, rfl⟩
  rw [← hAe] at hst hAC hA0 hI hZ
  refine sv_start hI (fun H locs hI => ?_)
  obtain ⟨⟨o1, o2⟩, ⟨o3, o4⟩, ⟨o5, o6⟩, ⟨o7, o8⟩, ⟨o9, o10⟩, ⟨o11, o12⟩, ⟨o13, o14⟩, ⟨o15, o16⟩, -⟩ := id hok
  have gx1 := sn_rng x1
  have j28u : ∀ (n : Nat) (H : Heap) (locs : List Loc) (ls : Array Slot) (v28u_2 : Int32) (t28u_lt : Int), sI (dC, dI) vcl cI cJ (gsM a th tr dp zi co sh t28u_lt ts mf) A s.heap H locs → okM th tr dp zi co sh t28u_lt ts mf → 0 ≤ v28u_2.toInt → v28u_2.toInt ≤ 24 → 1 ≤ t28u_lt → t28u_lt ≤ 1000 → t28u_lt ≤ lt + 1 → lv_has ls 3 [(0, .ref (a 0)), (1, .int x1), (2, .int v28u_2)] → 24 - v28u_2.toInt < (n : Int) → W p l e (headSpec tw_tbl rm_Mo_addCharacter).room s m ([.ref (a 0), .int x1] : List Value).toArray below meth c H locs 0 0 Z (F0 m 28 ls []) := by
    intro n
    induction n with
    | zero => intro H locs ls v28u_2 t28u_lt hI hok g28_0 g28_1 g28_2 g28_3 g28_4 hl hme; exfalso; obtain ⟨⟨o17, o18⟩, ⟨o19, o20⟩, ⟨o21, o22⟩, ⟨o23, o24⟩, ⟨o25, o26⟩, ⟨o27, o28⟩, ⟨o29, o30⟩, ⟨o31, o32⟩, -⟩ := id hok; omega
    | succ n ih =>
      intro H locs ls v28u_2 t28u_lt hI hok g28_0 g28_1 g28_2 g28_3 g28_4 hl hme
      obtain ⟨⟨o33, o34⟩, ⟨o35, o36⟩, ⟨o37, o38⟩, ⟨o39, o40⟩, ⟨o41, o42⟩, ⟨o43, o44⟩, ⟨o45, o46⟩, ⟨o47, o48⟩, -⟩ := id hok
      refine lv_iload_n hx hb d_Mo_addCharacter_28 rfl (lv_at hl 2 rfl) ?_
      refine sn_bipush hx hb d_Mo_addCharacter_29 (by decide) (fun z49 hz49 => ?_)
      refine sn_icmp_ge (tgt := 57) hx hb d_Mo_addCharacter_31 (by decide) (fun b50 => ?_) (fun b50 => ?_)
      · refine lv_aload_n hx hb d_Mo_addCharacter_57 rfl (lv_at hl 0 rfl) ?_
        refine sn_bipush hx hb d_Mo_addCharacter_58 (by decide) (fun z51 hz51 => ?_)
        refine tz_call (A1 := ga (adM a) H.size) (tz_runV (C := "StoryMachineModel") (As := [.int z51]) (rest := []) ⟨hx, hb, hml, hown, hts⟩ (c_Mo_addLetter l hfl dC dI cI cJ a H.size th tr dp zi co sh t28u_lt ts mf z51 hok (by omega)) (tx_cb (n := 1) hts rfl rfl ⟨Nat.le_of_ble_eq_true rfl, Nat.le_of_ble_eq_true rfl⟩ (tx_code.of (hts _ mw_1484)) (hts _ mw_12) (by decide +kernel) (hts _ mw_1481)) (hts _ mw_1483) (hts _ ms_Mo_addLetter) ⟨tz_blind, sv_recv (q0 := 0) hts in_Mo hK hI kM_0 rfl, fun U hU hW => ⟨rfl, by rw [hU], by rw [hU]; exact hI.1, va_K.moved hW.alike hK, hst _ _ hI.2 U hU hW⟩⟩ rfl rfl hl.1 rfl (lv_room (Nat.le_of_ble_eq_true rfl)) d_Mo_addCharacter_60 ⟨Nat.le_of_ble_eq_true rfl, Nat.le_of_ble_eq_true rfl⟩) hI.2 (fun q _ h => ga_sub hAC hA0 hI.2 q h) (ga_sub hAC hA0 hI.2) (fun v t H1 locs1 ht hWt hpost _ _ hS => ?_) (fun x t H1 locs1 ht hWt hpost _ _ hS => (hpost.2 x rfl).elim)
        rcases hpost.1 _ rfl with ⟨t_lt52, hv, c53, c53_0, c53_1, hI1⟩
        cases hv
        have hI : sI (dC, dI) vcl cI cJ (gsM a th tr dp zi co sh t_lt52 ts mf) A s.heap H1 locs1 := ⟨by rw [← ht]; exact hI1, hS⟩
        obtain ⟨-, -, -, -, -, -, ⟨o54, o55⟩, -, -⟩ := id c53
        clear hpost hI1 hS ht hWt
        revert hI; generalize H1 = H; generalize locs1 = locs; intro hI
        refine lv_aload_n hx hb d_Mo_addCharacter_63 rfl (lv_at hl 0 rfl) ?_
        refine lv_iload_n hx hb d_Mo_addCharacter_64 rfl (lv_at hl 1 rfl) ?_
        refine sn_bipush hx hb d_Mo_addCharacter_65 (by decide) (fun z56 hz56 => ?_)
        refine sn_idiv (k := 32) hx hb d_Mo_addCharacter_67 (by omega) (by omega) (by omega) (fun z57 hz57 => ?_)
        refine tz_call (A1 := ga (adM a) H.size) (tz_runV (C := "StoryMachineModel") (As := [.int z57]) (rest := []) ⟨hx, hb, hml, hown, hts⟩ (c_Mo_addLetter l hfl dC dI cI cJ a H.size th tr dp zi co sh t_lt52 ts mf z57 c53 (by omega)) (tx_cb (n := 1) hts rfl rfl ⟨Nat.le_of_ble_eq_true rfl, Nat.le_of_ble_eq_true rfl⟩ (tx_code.of (hts _ mw_1484)) (hts _ mw_12) (by decide +kernel) (hts _ mw_1481)) (hts _ mw_1483) (hts _ ms_Mo_addLetter) ⟨tz_blind, sv_recv (q0 := 0) hts in_Mo hK hI kM_0 rfl, fun U hU hW => ⟨rfl, by rw [hU], by rw [hU]; exact hI.1, va_K.moved hW.alike hK, hst _ _ hI.2 U hU hW⟩⟩ rfl rfl hl.1 rfl (lv_room (Nat.le_of_ble_eq_true rfl)) d_Mo_addCharacter_68 ⟨Nat.le_of_ble_eq_true rfl, Nat.le_of_ble_eq_true rfl⟩) hI.2 (fun q _ h => ga_sub hAC hA0 hI.2 q h) (ga_sub hAC hA0 hI.2) (fun v t H1 locs1 ht hWt hpost _ _ hS => ?_) (fun x t H1 locs1 ht hWt hpost _ _ hS => (hpost.2 x rfl).elim)
        rcases hpost.1 _ rfl with ⟨t_lt58, hv, c59, c59_0, c59_1, hI1⟩
        cases hv
        have hI : sI (dC, dI) vcl cI cJ (gsM a th tr dp zi co sh t_lt58 ts mf) A s.heap H1 locs1 := ⟨by rw [← ht]; exact hI1, hS⟩
        obtain ⟨-, -, -, -, -, -, ⟨o60, o61⟩, -, -⟩ := id c59
        clear hpost hI1 hS ht hWt
        revert hI; generalize H1 = H; generalize locs1 = locs; intro hI
        refine lv_aload_n hx hb d_Mo_addCharacter_71 rfl (lv_at hl 0 rfl) ?_
        refine lv_iload_n hx hb d_Mo_addCharacter_72 rfl (lv_at hl 1 rfl) ?_
        refine sn_bipush hx hb d_Mo_addCharacter_73 (by decide) (fun z62 hz62 => ?_)
        refine sn_irem (k := 32) hx hb d_Mo_addCharacter_75 (by omega) (by omega) (by omega) (fun z63 hz63 => ?_)
        refine tz_call (A1 := ga (adM a) H.size) (tz_runV (C := "StoryMachineModel") (As := [.int z63]) (rest := []) ⟨hx, hb, hml, hown, hts⟩ (c_Mo_addLetter l hfl dC dI cI cJ a H.size th tr dp zi co sh t_lt58 ts mf z63 c59 (by omega)) (tx_cb (n := 1) hts rfl rfl ⟨Nat.le_of_ble_eq_true rfl, Nat.le_of_ble_eq_true rfl⟩ (tx_code.of (hts _ mw_1484)) (hts _ mw_12) (by decide +kernel) (hts _ mw_1481)) (hts _ mw_1483) (hts _ ms_Mo_addLetter) ⟨tz_blind, sv_recv (q0 := 0) hts in_Mo hK hI kM_0 rfl, fun U hU hW => ⟨rfl, by rw [hU], by rw [hU]; exact hI.1, va_K.moved hW.alike hK, hst _ _ hI.2 U hU hW⟩⟩ rfl rfl hl.1 rfl (lv_room (Nat.le_of_ble_eq_true rfl)) d_Mo_addCharacter_76 ⟨Nat.le_of_ble_eq_true rfl, Nat.le_of_ble_eq_true rfl⟩) hI.2 (fun q _ h => ga_sub hAC hA0 hI.2 q h) (ga_sub hAC hA0 hI.2) (fun v t H1 locs1 ht hWt hpost _ _ hS => ?_) (fun x t H1 locs1 ht hWt hpost _ _ hS => (hpost.2 x rfl).elim)
        rcases hpost.1 _ rfl with ⟨t_lt64, hv, c65, c65_0, c65_1, hI1⟩
        cases hv
        have hI : sI (dC, dI) vcl cI cJ (gsM a th tr dp zi co sh t_lt64 ts mf) A s.heap H1 locs1 := ⟨by rw [← ht]; exact hI1, hS⟩
        obtain ⟨-, -, -, -, -, -, ⟨o66, o67⟩, -, -⟩ := id c65
        clear hpost hI1 hS ht hWt
        revert hI; generalize H1 = H; generalize locs1 = locs; intro hI
        subst hZ
        exact tz_ret (W.vret hx hb hr (fun t ht hW => ⟨⟨fun v9 hv9 => by cases hv9; exact (⟨t_lt64, rfl, c65, by omega, by omega, by rw [ht]; exact hI.1⟩), fun x9 hx9 => (by cases hx9)⟩, hI.2.F ht⟩) hI.2.2.2 d_Mo_addCharacter_79)
      · refine lv_iload_n hx hb d_Mo_addCharacter_34 rfl (lv_at hl 2 rfl) ?_
        refine tz_call (A1 := ga (adM a) H.size) (tz_runS (As := [.int v28u_2]) (rest := []) ⟨hx, hb, hml, hown, hts⟩ (c_Mo_sign l hfl dC dI cI cJ a H.size th tr dp zi co sh t28u_lt ts mf v28u_2 hok) (tx_cb (n := 1) hts rfl rfl ⟨Nat.le_of_ble_eq_true rfl, Nat.le_of_ble_eq_true rfl⟩ (tx_code.of (hts _ mw_1413)) (hts _ mw_12) (by decide +kernel) (hts _ mw_1411)) (hts _ mw_1412) ⟨tz_blind, fun U hU hW => ⟨rfl, by rw [hU], by rw [hU]; exact hI.1, va_K.moved hW.alike hK, hst _ _ hI.2 U hU hW⟩⟩ rfl rfl hl.1 rfl (lv_room (Nat.le_of_ble_eq_true rfl)) d_Mo_addCharacter_35 ⟨Nat.le_of_ble_eq_true rfl, Nat.le_of_ble_eq_true rfl⟩) hI.2 (fun q _ h => ga_sub hAC hA0 hI.2 q h) (ga_sub hAC hA0 hI.2) (fun v t H1 locs1 ht hWt hpost _ _ hS => ?_) (fun x t H1 locs1 ht hWt hpost _ _ hS => (hpost.2 x rfl).elim)
        rcases hpost.1 _ rfl with ⟨z68, hv, c69, c69_0, c69_1, hI1⟩
        cases hv
        have hI : sI (dC, dI) vcl cI cJ (gsM a th tr dp zi co sh t28u_lt ts mf) A s.heap H1 locs1 := ⟨by rw [← ht]; exact hI1, hS⟩
        clear hpost hI1 hS ht hWt
        revert hI; generalize H1 = H; generalize locs1 = locs; intro hI
        refine lv_iload_n hx hb d_Mo_addCharacter_38 rfl (lv_at hl 1 rfl) ?_
        refine sn_icmp_ne (tgt := 51) hx hb d_Mo_addCharacter_39 (by decide) (fun b70 => ?_) (fun b70 => ?_)
        · refine sn_iinc (k := 2) hx hb d_Mo_addCharacter_51 hl rfl (by decide) (by decide) (by omega) (by omega) (fun ls z71 hz71 hl => ?_)
          have hl : lv_has ls 3 [(2, .int z71), (0, .ref (a 0)), (1, .int x1)] := hl
          refine lv_goto (tgt := 28) hx hb d_Mo_addCharacter_54 (by decide) ?_
          exact ih _ _ _ z71 t28u_lt hI c69 (by omega) (by omega) (by omega) (by omega) (by omega) (lv_sub hl [1, 2, 0] rfl) (by omega)
        · refine lv_aload_n hx hb d_Mo_addCharacter_42 rfl (lv_at hl 0 rfl) ?_
          refine sn_bipush hx hb d_Mo_addCharacter_43 (by decide) (fun z72 hz72 => ?_)
          refine lv_iload_n hx hb d_Mo_addCharacter_45 rfl (lv_at hl 2 rfl) ?_
          refine sn_iadd hx hb d_Mo_addCharacter_46 (by omega) (by omega) (fun z73 hz73 => ?_)
          refine tz_call (A1 := ga (adM a) H.size) (tz_runV (C := "StoryMachineModel") (As := [.int z73]) (rest := []) ⟨hx, hb, hml, hown, hts⟩ (c_Mo_addLetter l hfl dC dI cI cJ a H.size th tr dp zi co sh t28u_lt ts mf z73 c69 (by omega)) (tx_cb (n := 1) hts rfl rfl ⟨Nat.le_of_ble_eq_true rfl, Nat.le_of_ble_eq_true rfl⟩ (tx_code.of (hts _ mw_1484)) (hts _ mw_12) (by decide +kernel) (hts _ mw_1481)) (hts _ mw_1483) (hts _ ms_Mo_addLetter) ⟨tz_blind, sv_recv (q0 := 0) hts in_Mo hK hI kM_0 rfl, fun U hU hW => ⟨rfl, by rw [hU], by rw [hU]; exact hI.1, va_K.moved hW.alike hK, hst _ _ hI.2 U hU hW⟩⟩ rfl rfl hl.1 rfl (lv_room (Nat.le_of_ble_eq_true rfl)) d_Mo_addCharacter_47 ⟨Nat.le_of_ble_eq_true rfl, Nat.le_of_ble_eq_true rfl⟩) hI.2 (fun q _ h => ga_sub hAC hA0 hI.2 q h) (ga_sub hAC hA0 hI.2) (fun v t H1 locs1 ht hWt hpost _ _ hS => ?_) (fun x t H1 locs1 ht hWt hpost _ _ hS => (hpost.2 x rfl).elim)
          rcases hpost.1 _ rfl with ⟨t_lt74, hv, c75, c75_0, c75_1, hI1⟩
          cases hv
          have hI : sI (dC, dI) vcl cI cJ (gsM a th tr dp zi co sh t_lt74 ts mf) A s.heap H1 locs1 := ⟨by rw [← ht]; exact hI1, hS⟩
          obtain ⟨-, -, -, -, -, -, ⟨o76, o77⟩, -, -⟩ := id c75
          clear hpost hI1 hS ht hWt
          revert hI; generalize H1 = H; generalize locs1 = locs; intro hI
          subst hZ
          exact tz_ret (W.vret hx hb hr (fun t ht hW => ⟨⟨fun v9 hv9 => by cases hv9; exact (⟨t_lt74, rfl, c75, by omega, by omega, by rw [ht]; exact hI.1⟩), fun x9 hx9 => (by cases hx9)⟩, hI.2.F ht⟩) hI.2.2.2 d_Mo_addCharacter_50)
  have j21u : ∀ (H : Heap) (locs : List Loc) (ls : Array Slot), sI (dC, dI) vcl cI cJ (gsM a th tr dp zi co sh lt ts mf) A s.heap H locs → okM th tr dp zi co sh lt ts mf → lt ≤ lt + 1 → lv_has ls 3 [(0, .ref (a 0)), (1, .int x1)] → W p l e (headSpec tw_tbl rm_Mo_addCharacter).room s m ([.ref (a 0), .int x1] : List Value).toArray below meth c H locs 0 0 Z (F0 m 21 ls []) := by
    intro H locs ls hI hok g21_0 hl
    obtain ⟨⟨o78, o79⟩, ⟨o80, o81⟩, ⟨o82, o83⟩, ⟨o84, o85⟩, ⟨o86, o87⟩, ⟨o88, o89⟩, ⟨o90, o91⟩, ⟨o92, o93⟩, -⟩ := id hok
    refine lv_aload_n hx hb d_Mo_addCharacter_21 rfl (lv_at hl 0 rfl) ?_
    refine sn_iconst hx hb d_Mo_addCharacter_22 (by decide) (fun z94 hz94 => ?_)
    refine tz_call (A1 := ga (adM a) H.size) (tz_runV (C := "StoryMachineModel") (As := [.int z94]) (rest := []) ⟨hx, hb, hml, hown, hts⟩ (c_Mo_addLetter l hfl dC dI cI cJ a H.size th tr dp zi co sh lt ts mf z94 hok (by omega)) (tx_cb (n := 1) hts rfl rfl ⟨Nat.le_of_ble_eq_true rfl, Nat.le_of_ble_eq_true rfl⟩ (tx_code.of (hts _ mw_1484)) (hts _ mw_12) (by decide +kernel) (hts _ mw_1481)) (hts _ mw_1483) (hts _ ms_Mo_addLetter) ⟨tz_blind, sv_recv (q0 := 0) hts in_Mo hK hI kM_0 rfl, fun U hU hW => ⟨rfl, by rw [hU], by rw [hU]; exact hI.1, va_K.moved hW.alike hK, hst _ _ hI.2 U hU hW⟩⟩ rfl rfl hl.1 rfl (lv_room (Nat.le_of_ble_eq_true rfl)) d_Mo_addCharacter_23 ⟨Nat.le_of_ble_eq_true rfl, Nat.le_of_ble_eq_true rfl⟩) hI.2 (fun q _ h => ga_sub hAC hA0 hI.2 q h) (ga_sub hAC hA0 hI.2) (fun v t H1 locs1 ht hWt hpost _ _ hS => ?_) (fun x t H1 locs1 ht hWt hpost _ _ hS => (hpost.2 x rfl).elim)
    rcases hpost.1 _ rfl with ⟨t_lt95, hv, c96, c96_0, c96_1, hI1⟩
    cases hv
    have hI : sI (dC, dI) vcl cI cJ (gsM a th tr dp zi co sh t_lt95 ts mf) A s.heap H1 locs1 := ⟨by rw [← ht]; exact hI1, hS⟩
    obtain ⟨-, -, -, -, -, -, ⟨o97, o98⟩, -, -⟩ := id c96
    clear hpost hI1 hS ht hWt
    revert hI; generalize H1 = H; generalize locs1 = locs; intro hI
    refine sn_iconst hx hb d_Mo_addCharacter_26 (by decide) (fun z99 hz99 => ?_)
    refine lv_istore_n (lv' := [(2, .int z99), (0, .ref (a 0)), (1, .int x1)]) hx hb d_Mo_addCharacter_27 rfl hl (by decide) rfl (fun ls hl => ?_)
    exact j28u 25 _ _ _ z99 t_lt95 hI c96 (by omega) (by omega) (by omega) (by omega) (by omega) (lv_sub hl [1, 2, 0] rfl) (by omega)
  refine lv_iload_n hx hb d_Mo_addCharacter_0 rfl (lv_at hl 1 rfl) ?_
  refine sn_bipush hx hb d_Mo_addCharacter_1 (by decide) (fun z100 hz100 => ?_)
  refine sn_icmp_le (tgt := 21) hx hb d_Mo_addCharacter_3 (by decide) (fun b101 => ?_) (fun b101 => ?_)
  · exact j21u _ _ _  hI hok (by omega) (lv_sub hl [0, 1] rfl)
  · refine lv_iload_n hx hb d_Mo_addCharacter_6 rfl (lv_at hl 1 rfl) ?_
    refine sn_bipush hx hb d_Mo_addCharacter_7 (by decide) (fun z102 hz102 => ?_)
    refine sn_icmp_ge (tgt := 21) hx hb d_Mo_addCharacter_9 (by decide) (fun b103 => ?_) (fun b103 => ?_)
    · exact j21u _ _ _  hI hok (by omega) (lv_sub hl [0, 1] rfl)
    · refine lv_aload_n hx hb d_Mo_addCharacter_12 rfl (lv_at hl 0 rfl) ?_
      refine lv_iload_n hx hb d_Mo_addCharacter_13 rfl (lv_at hl 1 rfl) ?_
      refine sn_bipush hx hb d_Mo_addCharacter_14 (by decide) (fun z104 hz104 => ?_)
      refine sn_isub hx hb d_Mo_addCharacter_16 (by omega) (by omega) (fun z105 hz105 => ?_)
      refine tz_call (A1 := ga (adM a) H.size) (tz_runV (C := "StoryMachineModel") (As := [.int z105]) (rest := []) ⟨hx, hb, hml, hown, hts⟩ (c_Mo_addLetter l hfl dC dI cI cJ a H.size th tr dp zi co sh lt ts mf z105 hok (by omega)) (tx_cb (n := 1) hts rfl rfl ⟨Nat.le_of_ble_eq_true rfl, Nat.le_of_ble_eq_true rfl⟩ (tx_code.of (hts _ mw_1484)) (hts _ mw_12) (by decide +kernel) (hts _ mw_1481)) (hts _ mw_1483) (hts _ ms_Mo_addLetter) ⟨tz_blind, sv_recv (q0 := 0) hts in_Mo hK hI kM_0 rfl, fun U hU hW => ⟨rfl, by rw [hU], by rw [hU]; exact hI.1, va_K.moved hW.alike hK, hst _ _ hI.2 U hU hW⟩⟩ rfl rfl hl.1 rfl (lv_room (Nat.le_of_ble_eq_true rfl)) d_Mo_addCharacter_17 ⟨Nat.le_of_ble_eq_true rfl, Nat.le_of_ble_eq_true rfl⟩) hI.2 (fun q _ h => ga_sub hAC hA0 hI.2 q h) (ga_sub hAC hA0 hI.2) (fun v t H1 locs1 ht hWt hpost _ _ hS => ?_) (fun x t H1 locs1 ht hWt hpost _ _ hS => (hpost.2 x rfl).elim)
      rcases hpost.1 _ rfl with ⟨t_lt106, hv, c107, c107_0, c107_1, hI1⟩
      cases hv
      have hI : sI (dC, dI) vcl cI cJ (gsM a th tr dp zi co sh t_lt106 ts mf) A s.heap H1 locs1 := ⟨by rw [← ht]; exact hI1, hS⟩
      obtain ⟨-, -, -, -, -, -, ⟨o108, o109⟩, -, -⟩ := id c107
      clear hpost hI1 hS ht hWt
      revert hI; generalize H1 = H; generalize locs1 = locs; intro hI
      subst hZ
      exact tz_ret (W.vret hx hb hr (fun t ht hW => ⟨⟨fun v9 hv9 => by cases hv9; exact (⟨t_lt106, rfl, c107, by omega, by omega, by rw [ht]; exact hI.1⟩), fun x9 hx9 => (by cases hx9)⟩, hI.2.F ht⟩) hI.2.2.2 d_Mo_addCharacter_20)
