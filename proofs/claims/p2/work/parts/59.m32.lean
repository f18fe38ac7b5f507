abbrev q_Mo_least (dC : Nat → ClassId) (dI : Nat → Nat → Nat) (cI cJ : ClassId) (a : Nat → Nat) (th tr dp zi co sh lt ts : Int) (mf : Nat → Int32) (x0 : Int32) (x1 : Int32) : Outcome → State → Prop := fun o t => (∀ v, o = .returned v → ((∃ (z : Int32), v = some (.int z) ∧ okM th tr dp zi co sh lt ts mf ∧ (0 ≤ z.toInt) ∧ (z.toInt ≤ 9) ∧ sh_I (dC, dI) vcl cI cJ (gsM a th tr dp zi co sh lt ts mf) t.heap))) ∧ (∀ x, o = .threw x → (False))
def rm_Mo_least : Room := { frames := 0, cells := 0, slots := 0, locals := 0 }
set_option maxHeartbeats 4000000 in
set_option maxRecDepth 100000 in
theorem c_Mo_least (l : Launch) (hfl : l.flags = pinnedFlags ++ [noTraceFlag]) (dC : Nat → ClassId) (dI : Nat → Nat → Nat) (cI cJ : ClassId) (a : Nat → Nat) (sz : Nat) (th tr dp zi co sh lt ts : Int) (mf : Nat → Int32) (x0 : Int32) (x1 : Int32) (hok : okM th tr dp zi co sh lt ts mf) : tz_Met l ⟨"StoryMachineModel", "least", "(II)I"⟩ tw_tbl rm_Mo_least (tzP (dC, dI) vcl cI cJ (gsM a th tr dp zi co sh lt ts mf) a (adM a) [.int x0, .int x1] sz) (tq_Q (q_Mo_least dC dI cI cJ a th tr dp zi co sh lt ts mf x0 x1) (ga (adM a) sz)) 0 0 0 0 (ga (adM a) sz) := by
  refine tz_ofW (cc := prog_13_method_40_code) (maxL := 2) (ret := (some .int)) (by decide) (tx_isM mw_1270) ?_
  intro p e s m args below meth c s₁ B hml hv
  obtain ⟨rfl, hsz, hI0, hK, hst0⟩ := hv
  have hx := B.exec
  have hb := B.bytes
  have hr := B.returns
  have hts := atoms_spec (ws := tw_tbl) B.pre
  have hown : s.vm.findClass "StoryMachineModel" = some m.cls := findClass_of_methodNamed B.named
  have hlocks := B.notSynchronized
  subst hsz
  have hst := fun (H : Heap) (locs : List Loc) (hS : va_S (ga (adM a) s.heap.size) s.heap H locs) (U : State) (hU : U.heap = H) (hW : s.WarmedH U.vm) => zS_all adM_map hI0 hst0 hS hU hW
  have hAC : ∀ q ∈ adM a, ga (adM a) s.heap.size q := fun q h => Or.inl h
  have hA0 : ∀ q, s.heap.size ≤ q → ga (adM a) s.heap.size q := fun q h => Or.inr h
  have hI : sI (dC, dI) vcl cI cJ (gsM a th tr dp zi co sh lt ts mf) (ga (adM a) s.heap.size) s.heap s.heap [] := ⟨hI0, va_S.rf⟩
  clear hI0 hst0
  have hl := lv_entry ([.int x0, .int x1]) (n := 2) (Nat.le_of_ble_eq_true rfl)
  rw [lg_entry_eq]
  generalize (lg_sl ([.int x0, .int x1]) ++ List.replicate (2 - (lg_sl ([.int x0, .int x1])).length) Slot.unset).toArray = ls at hl ⊢
  have hl : lv_has ls 2 [(0, .int x0), (1, .int x1)] := hl
  generalize hZ : tz_MQ below (tq_Q (q_Mo_least dC dI cI cJ a th tr dp zi co sh lt ts mf x0 x1) (ga (adM a) s.heap.size)) ([.int x0, .int x1] : List Value).toArray s 0 0 0 0 (ga (adM a) s.heap.size) = Z
  obtain ⟨A, hAe⟩ : ∃ A, A = ga (adM a) s.heap.size := ⟨_, rfl⟩
  rw [← hAe] at hst hAC hA0 hI hZ
  refine sv_start hI (fun H locs hI => ?_)
  obtain ⟨⟨o1, o2⟩, ⟨o3, o4⟩, ⟨o5, o6⟩, ⟨o7, o8⟩, ⟨o9, o10⟩, ⟨o11, o12⟩, ⟨o13, o14⟩, ⟨o15, o16⟩, -⟩ := id hok
  have gx0 := sn_rng x0
  have gx1 := sn_rng x1
  have j87u : ∀ (H : Heap) (locs : List Loc) (ls : Array Slot), sI (dC, dI) vcl cI cJ (gsM a th tr dp zi co sh lt ts mf) A s.heap H locs → okM th tr dp zi co sh lt ts mf → x1.toInt ≤ 9 → lv_has ls 2 [(0, .int x0), (1, .int x1)] → W p l e (headSpec tw_tbl rm_Mo_least).room s m ([.int x0, .int x1] : List Value).toArray below meth c H locs 0 0 Z (F0 m 87 ls []) := by
    intro H locs ls hI hok g87_0 hl
    obtain ⟨⟨o17, o18⟩, ⟨o19, o20⟩, ⟨o21, o22⟩, ⟨o23, o24⟩, ⟨o25, o26⟩, ⟨o27, o28⟩, ⟨o29, o30⟩, ⟨o31, o32⟩, -⟩ := id hok
    refine lv_iload_n hx hb d_Mo_least_87 rfl (lv_at hl 1 rfl) ?_
    refine sn_iconst hx hb d_Mo_least_88 (by decide) (fun z33 hz33 => ?_)
    refine sn_icmp_ne (tgt := 96) hx hb d_Mo_least_89 (by decide) (fun b34 => ?_) (fun b34 => ?_)
    · refine sn_iconst hx hb d_Mo_least_96 (by decide) (fun z35 hz35 => ?_)
      subst hZ
      exact tz_ret (W.iret (v := z35) hx hb hr (fun t ht hW => ⟨⟨fun v9 hv9 => by cases hv9; exact (⟨z35, rfl, hok, by omega, by omega, by rw [ht]; exact hI.1⟩), fun x9 hx9 => (by cases hx9)⟩, hI.2.F ht⟩) hI.2.2.2 d_Mo_least_97)
    · refine sn_iconst hx hb d_Mo_least_92 (by decide) (fun z36 hz36 => ?_)
      refine lv_goto (tgt := 97) hx hb d_Mo_least_93 (by decide) ?_
      subst hZ
      exact tz_ret (W.iret (v := z36) hx hb hr (fun t ht hW => ⟨⟨fun v9 hv9 => by cases hv9; exact (⟨z36, rfl, hok, by omega, by omega, by rw [ht]; exact hI.1⟩), fun x9 hx9 => (by cases hx9)⟩, hI.2.F ht⟩) hI.2.2.2 d_Mo_least_97)
  have j56u : ∀ (H : Heap) (locs : List Loc) (ls : Array Slot), sI (dC, dI) vcl cI cJ (gsM a th tr dp zi co sh lt ts mf) A s.heap H locs → okM th tr dp zi co sh lt ts mf → 2 ≤ x0.toInt → x0.toInt ≤ 2 → 7 ≤ x1.toInt → lv_has ls 2 [(0, .int x0), (1, .int x1)] → W p l e (headSpec tw_tbl rm_Mo_least).room s m ([.int x0, .int x1] : List Value).toArray below meth c H locs 0 0 Z (F0 m 56 ls []) := by
    intro H locs ls hI hok g56_0 g56_1 g56_2 hl
    obtain ⟨⟨o37, o38⟩, ⟨o39, o40⟩, ⟨o41, o42⟩, ⟨o43, o44⟩, ⟨o45, o46⟩, ⟨o47, o48⟩, ⟨o49, o50⟩, ⟨o51, o52⟩, -⟩ := id hok
    refine sn_bipush hx hb d_Mo_least_56 (by decide) (fun z53 hz53 => ?_)
    refine lv_goto (tgt := 62) hx hb d_Mo_least_58 (by decide) ?_
    subst hZ
    exact tz_ret (W.iret (v := z53) hx hb hr (fun t ht hW => ⟨⟨fun v9 hv9 => by cases hv9; exact (⟨z53, rfl, hok, by omega, by omega, by rw [ht]; exact hI.1⟩), fun x9 hx9 => (by cases hx9)⟩, hI.2.F ht⟩) hI.2.2.2 d_Mo_least_62)
  refine lv_iload_n hx hb d_Mo_least_0 rfl (lv_at hl 0 rfl) ?_
  refine sn_if_ne (tgt := 21) hx hb d_Mo_least_1 (by decide) (fun b54 => ?_) (fun b54 => ?_)
  · refine lv_iload_n hx hb d_Mo_least_21 rfl (lv_at hl 0 rfl) ?_
    refine sn_iconst hx hb d_Mo_least_22 (by decide) (fun z55 hz55 => ?_)
    refine sn_icmp_ne (tgt := 39) hx hb d_Mo_least_23 (by decide) (fun b56 => ?_) (fun b56 => ?_)
    · refine lv_iload_n hx hb d_Mo_least_39 rfl (lv_at hl 0 rfl) ?_
      refine sn_iconst hx hb d_Mo_least_40 (by decide) (fun z57 hz57 => ?_)
      refine sn_icmp_ne (tgt := 63) hx hb d_Mo_least_41 (by decide) (fun b58 => ?_) (fun b58 => ?_)
      · refine lv_iload_n hx hb d_Mo_least_63 rfl (lv_at hl 1 rfl) ?_
        refine sn_bipush hx hb d_Mo_least_64 (by decide) (fun z59 hz59 => ?_)
        refine sn_icmp_le (tgt := 74) hx hb d_Mo_least_66 (by decide) (fun b60 => ?_) (fun b60 => ?_)
        · refine lv_iload_n hx hb d_Mo_least_74 rfl (lv_at hl 1 rfl) ?_
          refine sn_if_le (tgt := 87) hx hb d_Mo_least_75 (by decide) (fun b61 => ?_) (fun b61 => ?_)
          · exact j87u _ _ _  hI hok (by omega) (lv_sub hl [0, 1] rfl)
          · refine lv_iload_n hx hb d_Mo_least_78 rfl (lv_at hl 1 rfl) ?_
            refine sn_iconst hx hb d_Mo_least_79 (by decide) (fun z62 hz62 => ?_)
            refine sn_icmp_ge (tgt := 87) hx hb d_Mo_least_80 (by decide) (fun b63 => ?_) (fun b63 => ?_)
            · exact j87u _ _ _  hI hok (by omega) (lv_sub hl [0, 1] rfl)
            · refine sn_iconst hx hb d_Mo_least_83 (by decide) (fun z64 hz64 => ?_)
              refine lv_goto (tgt := 97) hx hb d_Mo_least_84 (by decide) ?_
              subst hZ
              exact tz_ret (W.iret (v := z64) hx hb hr (fun t ht hW => ⟨⟨fun v9 hv9 => by cases hv9; exact (⟨z64, rfl, hok, by omega, by omega, by rw [ht]; exact hI.1⟩), fun x9 hx9 => (by cases hx9)⟩, hI.2.F ht⟩) hI.2.2.2 d_Mo_least_97)
        · refine sn_bipush hx hb d_Mo_least_69 (by decide) (fun z65 hz65 => ?_)
          refine lv_goto (tgt := 97) hx hb d_Mo_least_71 (by decide) ?_
          subst hZ
          exact tz_ret (W.iret (v := z65) hx hb hr (fun t ht hW => ⟨⟨fun v9 hv9 => by cases hv9; exact (⟨z65, rfl, hok, by omega, by omega, by rw [ht]; exact hI.1⟩), fun x9 hx9 => (by cases hx9)⟩, hI.2.F ht⟩) hI.2.2.2 d_Mo_least_97)
      · refine lv_iload_n hx hb d_Mo_least_44 rfl (lv_at hl 1 rfl) ?_
        refine sn_bipush hx hb d_Mo_least_45 (by decide) (fun z66 hz66 => ?_)
        refine sn_icmp_eq (tgt := 56) hx hb d_Mo_least_47 (by decide) (fun b67 => ?_) (fun b67 => ?_)
        · exact j56u _ _ _  hI hok (by omega) (by omega) (by omega) (lv_sub hl [0, 1] rfl)
        · refine lv_iload_n hx hb d_Mo_least_50 rfl (lv_at hl 1 rfl) ?_
          refine sn_bipush hx hb d_Mo_least_51 (by decide) (fun z68 hz68 => ?_)
          refine sn_icmp_le (tgt := 61) hx hb d_Mo_least_53 (by decide) (fun b69 => ?_) (fun b69 => ?_)
          · refine sn_iconst hx hb d_Mo_least_61 (by decide) (fun z70 hz70 => ?_)
            subst hZ
            exact tz_ret (W.iret (v := z70) hx hb hr (fun t ht hW => ⟨⟨fun v9 hv9 => by cases hv9; exact (⟨z70, rfl, hok, by omega, by omega, by rw [ht]; exact hI.1⟩), fun x9 hx9 => (by cases hx9)⟩, hI.2.F ht⟩) hI.2.2.2 d_Mo_least_62)
          · exact j56u _ _ _  hI hok (by omega) (by omega) (by omega) (lv_sub hl [0, 1] rfl)
    · refine lv_iload_n hx hb d_Mo_least_26 rfl (lv_at hl 1 rfl) ?_
      refine sn_bipush hx hb d_Mo_least_27 (by decide) (fun z71 hz71 => ?_)
      refine sn_icmp_ne (tgt := 37) hx hb d_Mo_least_29 (by decide) (fun b72 => ?_) (fun b72 => ?_)
      · refine sn_iconst hx hb d_Mo_least_37 (by decide) (fun z73 hz73 => ?_)
        subst hZ
        exact tz_ret (W.iret (v := z73) hx hb hr (fun t ht hW => ⟨⟨fun v9 hv9 => by cases hv9; exact (⟨z73, rfl, hok, by omega, by omega, by rw [ht]; exact hI.1⟩), fun x9 hx9 => (by cases hx9)⟩, hI.2.F ht⟩) hI.2.2.2 d_Mo_least_38)
      · refine sn_bipush hx hb d_Mo_least_32 (by decide) (fun z74 hz74 => ?_)
        refine lv_goto (tgt := 38) hx hb d_Mo_least_34 (by decide) ?_
        subst hZ
        exact tz_ret (W.iret (v := z74) hx hb hr (fun t ht hW => ⟨⟨fun v9 hv9 => by cases hv9; exact (⟨z74, rfl, hok, by omega, by omega, by rw [ht]; exact hI.1⟩), fun x9 hx9 => (by cases hx9)⟩, hI.2.F ht⟩) hI.2.2.2 d_Mo_least_38)
  · refine lv_iload_n hx hb d_Mo_least_4 rfl (lv_at hl 1 rfl) ?_
    refine sn_if_le (tgt := 18) hx hb d_Mo_least_5 (by decide) (fun b75 => ?_) (fun b75 => ?_)
    · refine sn_bipush hx hb d_Mo_least_18 (by decide) (fun z76 hz76 => ?_)
      subst hZ
      exact tz_ret (W.iret (v := z76) hx hb hr (fun t ht hW => ⟨⟨fun v9 hv9 => by cases hv9; exact (⟨z76, rfl, hok, by omega, by omega, by rw [ht]; exact hI.1⟩), fun x9 hx9 => (by cases hx9)⟩, hI.2.F ht⟩) hI.2.2.2 d_Mo_least_20)
    · refine lv_iload_n hx hb d_Mo_least_8 rfl (lv_at hl 1 rfl) ?_
      refine sn_bipush hx hb d_Mo_least_9 (by decide) (fun z77 hz77 => ?_)
      refine sn_icmp_ge (tgt := 18) hx hb d_Mo_least_11 (by decide) (fun b78 => ?_) (fun b78 => ?_)
      · refine sn_bipush hx hb d_Mo_least_18 (by decide) (fun z79 hz79 => ?_)
        subst hZ
        exact tz_ret (W.iret (v := z79) hx hb hr (fun t ht hW => ⟨⟨fun v9 hv9 => by cases hv9; exact (⟨z79, rfl, hok, by omega, by omega, by rw [ht]; exact hI.1⟩), fun x9 hx9 => (by cases hx9)⟩, hI.2.F ht⟩) hI.2.2.2 d_Mo_least_20)
      · refine sn_iconst hx hb d_Mo_least_14 (by decide) (fun z80 hz80 => ?_)
        refine lv_goto (tgt := 20) hx hb d_Mo_least_15 (by decide) ?_
        subst hZ
        exact tz_ret (W.iret (v := z80) hx hb hr (fun t ht hW => ⟨⟨fun v9 hv9 => by cases hv9; exact (⟨z80, rfl, hok, by omega, by omega, by rw [ht]; exact hI.1⟩), fun x9 hx9 => (by cases hx9)⟩, hI.2.F ht⟩) hI.2.2.2 d_Mo_least_20)
abbrev q_Mo_gives (dC : Nat → ClassId) (dI : Nat → Nat → Nat) (cI cJ : ClassId) (a : Nat → Nat) (th tr dp zi co sh lt ts : Int) (mf : Nat → Int32) (x0 : Int32) (x1 : Int32) : Outcome → State → Prop := fun o t => (∀ v, o = .returned v → ((∃ (z : Int32), v = some (.int z) ∧ okM th tr dp zi co sh lt ts mf ∧ (0 ≤ z.toInt) ∧ (z.toInt ≤ 0) ∧ sh_I (dC, dI) vcl cI cJ (gsM a th tr dp zi co sh lt ts mf) t.heap) ∨ (∃ (z : Int32), v = some (.int z) ∧ okM th tr dp zi co sh lt ts mf ∧ (1 ≤ z.toInt) ∧ (z.toInt ≤ 1) ∧ (0 ≤ x0.toInt) ∧ (x0.toInt ≤ 3) ∧ (0 ≤ x1.toInt) ∧ sh_I (dC, dI) vcl cI cJ (gsM a th tr dp zi co sh lt ts mf) t.heap))) ∧ (∀ x, o = .threw x → (False))
def rm_Mo_gives : Room := { frames := 0, cells := 0, slots := 0, locals := 0 }
set_option maxHeartbeats 4000000 in
set_option maxRecDepth 100000 in
theorem c_Mo_gives (l : Launch) (hfl : l.flags = pinnedFlags ++ [noTraceFlag]) (dC : Nat → ClassId) (dI : Nat → Nat → Nat) (cI cJ : ClassId) (a : Nat → Nat) (sz : Nat) (th tr dp zi co sh lt ts : Int) (mf : Nat → Int32) (x0 : Int32) (x1 : Int32) (hok : okM th tr dp zi co sh lt ts mf) : tz_Met l ⟨"StoryMachineModel", "gives", "(II)Z"⟩ tw_tbl rm_Mo_gives (tzP (dC, dI) vcl cI cJ (gsM a th tr dp zi co sh lt ts mf) a (adM a) [.int x0, .int x1] sz) (tq_Q (q_Mo_gives dC dI cI cJ a th tr dp zi co sh lt ts mf x0 x1) (ga (adM a) sz)) 0 0 0 0 (ga (adM a) sz) := by
  refine tz_ofW (cc := prog_13_method_41_code) (maxL := 2) (ret := (some .boolean)) (by decide) (tx_isM mw_1277) ?_
  intro p e s m args below meth c s₁ B hml hv
  obtain ⟨rfl, hsz, hI0, hK, hst0⟩ := hv
  have hx := B.exec
  have hb := B.bytes
  have hr := B.returns
  have hts := atoms_spec (ws := tw_tbl) B.pre
  have hown : s.vm.findClass "StoryMachineModel" = some m.cls := findClass_of_methodNamed B.named
  have hlocks := B.notSynchronized
  subst hsz
  have hst := fun (H : Heap) (locs : List Loc) (hS : va_S (ga (adM a) s.heap.size) s.heap H locs) (U : State) (hU : U.heap = H) (hW : s.WarmedH U.vm) => zS_all adM_map hI0 hst0 hS hU hW
  have hAC : ∀ q ∈ adM a, ga (adM a) s.heap.size q := fun q h => Or.inl h
  have hA0 : ∀ q, s.heap.size ≤ q → ga (adM a) s.heap.size q := fun q h => Or.inr h
  have hI : sI (dC, dI) vcl cI cJ (gsM a th tr dp zi co sh lt ts mf) (ga (adM a) s.heap.size) s.heap s.heap [] := ⟨hI0, va_S.rf⟩
  clear hI0 hst0
  have hl := lv_entry ([.int x0, .int x1]) (n := 2) (Nat.le_of_ble_eq_true rfl)
  rw [lg_entry_eq]
  generalize (lg_sl ([.int x0, .int x1]) ++ List.replicate (2 - (lg_sl ([.int x0, .int x1])).length) Slot.unset).toArray = ls at hl ⊢
  have hl : lv_has ls 2 [(0, .int x0), (1, .int x1)] := hl
  generalize hZ : tz_MQ below (tq_Q (q_Mo_gives dC dI cI cJ a th tr dp zi co sh lt ts mf x0 x1) (ga (adM a) s.heap.size)) ([.int x0, .int x1] : List Value).toArray s 0 0 0 0 (ga (adM a) s.heap.size) = Z
  obtain ⟨A, hAe⟩ : ∃ A, A = ga (adM a) s.heap.size := ⟨_, rfl⟩
  rw [← hAe] at hst hAC hA0 hI hZ
  refine sv_start hI (fun H locs hI => ?_)
  obtain ⟨⟨o1, o2⟩, ⟨o3, o4⟩, ⟨o5, o6⟩, ⟨o7, o8⟩, ⟨o9, o10⟩, ⟨o11, o12⟩, ⟨o13, o14⟩, ⟨o15, o16⟩, -⟩ := id hok
  have gx0 := sn_rng x0
  have gx1 := sn_rng x1
  have j69u : ∀ (H : Heap) (locs : List Loc) (ls : Array Slot), sI (dC, dI) vcl cI cJ (gsM a th tr dp zi co sh lt ts mf) A s.heap H locs → okM th tr dp zi co sh lt ts mf → 3 ≤ x0.toInt → x0.toInt ≤ 3 → 0 ≤ x1.toInt → x1.toInt ≤ 7 → lv_has ls 2 [(0, .int x0), (1, .int x1)] → W p l e (headSpec tw_tbl rm_Mo_gives).room s m ([.int x0, .int x1] : List Value).toArray below meth c H locs 0 0 Z (F0 m 69 ls []) := by
    intro H locs ls hI hok g69_0 g69_1 g69_2 g69_3 hl
    obtain ⟨⟨o17, o18⟩, ⟨o19, o20⟩, ⟨o21, o22⟩, ⟨o23, o24⟩, ⟨o25, o26⟩, ⟨o27, o28⟩, ⟨o29, o30⟩, ⟨o31, o32⟩, -⟩ := id hok
    refine sn_iconst hx hb d_Mo_gives_69 (by decide) (fun z33 hz33 => ?_)
    refine lv_goto (tgt := 74) hx hb d_Mo_gives_70 (by decide) ?_
    subst hZ
    exact tz_ret (W.zret (v := z33) hx hb hr (sn_bool (by omega) (by omega)).1 (fun t ht hW => ⟨⟨fun v9 hv9 => by cases hv9; exact (Or.inr (⟨z33, rfl, hok, by omega, by omega, by omega, by omega, by omega, by rw [ht]; exact hI.1⟩)), fun x9 hx9 => (by cases hx9)⟩, hI.2.F ht⟩) hI.2.2.2 d_Mo_gives_74)
  have j48u : ∀ (H : Heap) (locs : List Loc) (ls : Array Slot), sI (dC, dI) vcl cI cJ (gsM a th tr dp zi co sh lt ts mf) A s.heap H locs → okM th tr dp zi co sh lt ts mf → 1 ≤ x0.toInt → x0.toInt ≤ 1 → 1 ≤ x1.toInt → lv_has ls 2 [(0, .int x0), (1, .int x1)] → W p l e (headSpec tw_tbl rm_Mo_gives).room s m ([.int x0, .int x1] : List Value).toArray below meth c H locs 0 0 Z (F0 m 48 ls []) := by
    intro H locs ls hI hok g48_0 g48_1 g48_2 hl
    obtain ⟨⟨o34, o35⟩, ⟨o36, o37⟩, ⟨o38, o39⟩, ⟨o40, o41⟩, ⟨o42, o43⟩, ⟨o44, o45⟩, ⟨o46, o47⟩, ⟨o48, o49⟩, -⟩ := id hok
    refine sn_iconst hx hb d_Mo_gives_48 (by decide) (fun z50 hz50 => ?_)
    refine lv_goto (tgt := 53) hx hb d_Mo_gives_49 (by decide) ?_
    subst hZ
    exact tz_ret (W.zret (v := z50) hx hb hr (sn_bool (by omega) (by omega)).1 (fun t ht hW => ⟨⟨fun v9 hv9 => by cases hv9; exact (Or.inr (⟨z50, rfl, hok, by omega, by omega, by omega, by omega, by omega, by rw [ht]; exact hI.1⟩)), fun x9 hx9 => (by cases hx9)⟩, hI.2.F ht⟩) hI.2.2.2 d_Mo_gives_53)
  have j42u : ∀ (H : Heap) (locs : List Loc) (ls : Array Slot), sI (dC, dI) vcl cI cJ (gsM a th tr dp zi co sh lt ts mf) A s.heap H locs → okM th tr dp zi co sh lt ts mf → 1 ≤ x0.toInt → x0.toInt ≤ 1 → lv_has ls 2 [(0, .int x0), (1, .int x1)] → W p l e (headSpec tw_tbl rm_Mo_gives).room s m ([.int x0, .int x1] : List Value).toArray below meth c H locs 0 0 Z (F0 m 42 ls []) := by
    intro H locs ls hI hok g42_0 g42_1 hl
    obtain ⟨⟨o51, o52⟩, ⟨o53, o54⟩, ⟨o55, o56⟩, ⟨o57, o58⟩, ⟨o59, o60⟩, ⟨o61, o62⟩, ⟨o63, o64⟩, ⟨o65, o66⟩, -⟩ := id hok
    refine lv_iload_n hx hb d_Mo_gives_42 rfl (lv_at hl 1 rfl) ?_
    refine sn_bipush hx hb d_Mo_gives_43 (by decide) (fun z67 hz67 => ?_)
    refine sn_icmp_le (tgt := 52) hx hb d_Mo_gives_45 (by decide) (fun b68 => ?_) (fun b68 => ?_)
    · refine sn_iconst hx hb d_Mo_gives_52 (by decide) (fun z69 hz69 => ?_)
      subst hZ
      exact tz_ret (W.zret (v := z69) hx hb hr (sn_bool (by omega) (by omega)).1 (fun t ht hW => ⟨⟨fun v9 hv9 => by cases hv9; exact (Or.inl ⟨z69, rfl, hok, by omega, by omega, by rw [ht]; exact hI.1⟩), fun x9 hx9 => (by cases hx9)⟩, hI.2.F ht⟩) hI.2.2.2 d_Mo_gives_53)
    · exact j48u _ _ _  hI hok (by omega) (by omega) (by omega) (lv_sub hl [0, 1] rfl)
  have j22u : ∀ (H : Heap) (locs : List Loc) (ls : Array Slot), sI (dC, dI) vcl cI cJ (gsM a th tr dp zi co sh lt ts mf) A s.heap H locs → okM th tr dp zi co sh lt ts mf → 0 ≤ x0.toInt → x0.toInt ≤ 0 → 8 ≤ x1.toInt → lv_has ls 2 [(0, .int x0), (1, .int x1)] → W p l e (headSpec tw_tbl rm_Mo_gives).room s m ([.int x0, .int x1] : List Value).toArray below meth c H locs 0 0 Z (F0 m 22 ls []) := by
    intro H locs ls hI hok g22_0 g22_1 g22_2 hl
    obtain ⟨⟨o70, o71⟩, ⟨o72, o73⟩, ⟨o74, o75⟩, ⟨o76, o77⟩, ⟨o78, o79⟩, ⟨o80, o81⟩, ⟨o82, o83⟩, ⟨o84, o85⟩, -⟩ := id hok
    refine sn_iconst hx hb d_Mo_gives_22 (by decide) (fun z86 hz86 => ?_)
    refine lv_goto (tgt := 27) hx hb d_Mo_gives_23 (by decide) ?_
    subst hZ
    exact tz_ret (W.zret (v := z86) hx hb hr (sn_bool (by omega) (by omega)).1 (fun t ht hW => ⟨⟨fun v9 hv9 => by cases hv9; exact (Or.inr (⟨z86, rfl, hok, by omega, by omega, by omega, by omega, by omega, by rw [ht]; exact hI.1⟩)), fun x9 hx9 => (by cases hx9)⟩, hI.2.F ht⟩) hI.2.2.2 d_Mo_gives_27)
  refine lv_iload_n hx hb d_Mo_gives_0 rfl (lv_at hl 0 rfl) ?_
  refine sn_if_ne (tgt := 28) hx hb d_Mo_gives_1 (by decide) (fun b87 => ?_) (fun b87 => ?_)
  · refine lv_iload_n hx hb d_Mo_gives_28 rfl (lv_at hl 0 rfl) ?_
    refine sn_iconst hx hb d_Mo_gives_29 (by decide) (fun z88 hz88 => ?_)
    refine sn_icmp_ne (tgt := 54) hx hb d_Mo_gives_30 (by decide) (fun b89 => ?_) (fun b89 => ?_)
    · refine lv_iload_n hx hb d_Mo_gives_54 rfl (lv_at hl 0 rfl) ?_
      refine sn_iconst hx hb d_Mo_gives_55 (by decide) (fun z90 hz90 => ?_)
      refine sn_icmp_ne (tgt := 73) hx hb d_Mo_gives_56 (by decide) (fun b91 => ?_) (fun b91 => ?_)
      · refine sn_iconst hx hb d_Mo_gives_73 (by decide) (fun z92 hz92 => ?_)
        subst hZ
        exact tz_ret (W.zret (v := z92) hx hb hr (sn_bool (by omega) (by omega)).1 (fun t ht hW => ⟨⟨fun v9 hv9 => by cases hv9; exact (Or.inl ⟨z92, rfl, hok, by omega, by omega, by rw [ht]; exact hI.1⟩), fun x9 hx9 => (by cases hx9)⟩, hI.2.F ht⟩) hI.2.2.2 d_Mo_gives_74)
      · refine lv_iload_n hx hb d_Mo_gives_59 rfl (lv_at hl 1 rfl) ?_
        refine sn_if_eq (tgt := 69) hx hb d_Mo_gives_60 (by decide) (fun b93 => ?_) (fun b93 => ?_)
        · exact j69u _ _ _  hI hok (by omega) (by omega) (by omega) (by omega) (lv_sub hl [0, 1] rfl)
        · refine lv_iload_n hx hb d_Mo_gives_63 rfl (lv_at hl 1 rfl) ?_
          refine sn_bipush hx hb d_Mo_gives_64 (by decide) (fun z94 hz94 => ?_)
          refine sn_icmp_ne (tgt := 73) hx hb d_Mo_gives_66 (by decide) (fun b95 => ?_) (fun b95 => ?_)
          · refine sn_iconst hx hb d_Mo_gives_73 (by decide) (fun z96 hz96 => ?_)
            subst hZ
            exact tz_ret (W.zret (v := z96) hx hb hr (sn_bool (by omega) (by omega)).1 (fun t ht hW => ⟨⟨fun v9 hv9 => by cases hv9; exact (Or.inl ⟨z96, rfl, hok, by omega, by omega, by rw [ht]; exact hI.1⟩), fun x9 hx9 => (by cases hx9)⟩, hI.2.F ht⟩) hI.2.2.2 d_Mo_gives_74)
          · exact j69u _ _ _  hI hok (by omega) (by omega) (by omega) (by omega) (lv_sub hl [0, 1] rfl)
    · refine lv_iload_n hx hb d_Mo_gives_33 rfl (lv_at hl 1 rfl) ?_
      refine sn_if_le (tgt := 42) hx hb d_Mo_gives_34 (by decide) (fun b97 => ?_) (fun b97 => ?_)
      · exact j42u _ _ _  hI hok (by omega) (by omega) (lv_sub hl [0, 1] rfl)
      · refine lv_iload_n hx hb d_Mo_gives_37 rfl (lv_at hl 1 rfl) ?_
        refine sn_iconst hx hb d_Mo_gives_38 (by decide) (fun z98 hz98 => ?_)
        refine sn_icmp_lt (tgt := 48) hx hb d_Mo_gives_39 (by decide) (fun b99 => ?_) (fun b99 => ?_)
        · exact j48u _ _ _  hI hok (by omega) (by omega) (by omega) (lv_sub hl [0, 1] rfl)
        · exact j42u _ _ _  hI hok (by omega) (by omega) (lv_sub hl [0, 1] rfl)
  · refine lv_iload_n hx hb d_Mo_gives_4 rfl (lv_at hl 1 rfl) ?_
    refine sn_bipush hx hb d_Mo_gives_5 (by decide) (fun z100 hz100 => ?_)
    refine sn_icmp_eq (tgt := 22) hx hb d_Mo_gives_7 (by decide) (fun b101 => ?_) (fun b101 => ?_)
    · exact j22u _ _ _  hI hok (by omega) (by omega) (by omega) (lv_sub hl [0, 1] rfl)
    · refine lv_iload_n hx hb d_Mo_gives_10 rfl (lv_at hl 1 rfl) ?_
      refine sn_bipush hx hb d_Mo_gives_11 (by decide) (fun z102 hz102 => ?_)
      refine sn_icmp_eq (tgt := 22) hx hb d_Mo_gives_13 (by decide) (fun b103 => ?_) (fun b103 => ?_)
      · exact j22u _ _ _  hI hok (by omega) (by omega) (by omega) (lv_sub hl [0, 1] rfl)
      · refine lv_iload_n hx hb d_Mo_gives_16 rfl (lv_at hl 1 rfl) ?_
        refine sn_bipush hx hb d_Mo_gives_17 (by decide) (fun z104 hz104 => ?_)
        refine sn_icmp_le (tgt := 26) hx hb d_Mo_gives_19 (by decide) (fun b105 => ?_) (fun b105 => ?_)
        · refine sn_iconst hx hb d_Mo_gives_26 (by decide) (fun z106 hz106 => ?_)
          subst hZ
          exact tz_ret (W.zret (v := z106) hx hb hr (sn_bool (by omega) (by omega)).1 (fun t ht hW => ⟨⟨fun v9 hv9 => by cases hv9; exact (Or.inl ⟨z106, rfl, hok, by omega, by omega, by rw [ht]; exact hI.1⟩), fun x9 hx9 => (by cases hx9)⟩, hI.2.F ht⟩) hI.2.2.2 d_Mo_gives_27)
        · exact j22u _ _ _  hI hok (by omega) (by omega) (by omega) (lv_sub hl [0, 1] rfl)
abbrev q_Mo_asks (dC : Nat → ClassId) (dI : Nat → Nat → Nat) (cI cJ : ClassId) (a : Nat → Nat) (th tr dp zi co sh lt ts : Int) (mf : Nat → Int32) (x0 : Int32) (x1 : Int32) : Outcome → State → Prop := fun o t => (∀ v, o = .returned v → ((∃ (z : Int32), v = some (.int z) ∧ okM th tr dp zi co sh lt ts mf ∧ (0 ≤ z.toInt) ∧ (z.toInt ≤ 0) ∧ sh_I (dC, dI) vcl cI cJ (gsM a th tr dp zi co sh lt ts mf) t.heap) ∨ (∃ (z : Int32), v = some (.int z) ∧ okM th tr dp zi co sh lt ts mf ∧ (1 ≤ z.toInt) ∧ (z.toInt ≤ 1) ∧ (0 ≤ x0.toInt) ∧ (x0.toInt ≤ 2) ∧ (x1.toInt ≤ 10) ∧ sh_I (dC, dI) vcl cI cJ (gsM a th tr dp zi co sh lt ts mf) t.heap))) ∧ (∀ x, o = .threw x → (False))
def rm_Mo_asks : Room := { frames := 0, cells := 0, slots := 0, locals := 0 }
set_option maxHeartbeats 4000000 in
set_option maxRecDepth 100000 in
theorem c_Mo_asks (l : Launch) (hfl : l.flags = pinnedFlags ++ [noTraceFlag]) (dC : Nat → ClassId) (dI : Nat → Nat → Nat) (cI cJ : ClassId) (a : Nat → Nat) (sz : Nat) (th tr dp zi co sh lt ts : Int) (mf : Nat → Int32) (x0 : Int32) (x1 : Int32) (hok : okM th tr dp zi co sh lt ts mf) : tz_Met l ⟨"StoryMachineModel", "asks", "(II)Z"⟩ tw_tbl rm_Mo_asks (tzP (dC, dI) vcl cI cJ (gsM a th tr dp zi co sh lt ts mf) a (adM a) [.int x0, .int x1] sz) (tq_Q (q_Mo_asks dC dI cI cJ a th tr dp zi co sh lt ts mf x0 x1) (ga (adM a) sz)) 0 0 0 0 (ga (adM a) sz) := by
  refine tz_ofW (cc := prog_13_method_42_code) (maxL := 2) (ret := (some .boolean)) (by decide) (tx_isM mw_1280) ?_
  intro p e s m args below meth c s₁ B hml hv
  obtain ⟨rfl, hsz, hI0, hK, hst0⟩ := hv
  have hx := B.exec
  have hb := B.bytes
  have hr := B.returns
  have hts := atoms_spec (ws := tw_tbl) B.pre
  have hown : s.vm.findClass "StoryMachineModel" = some m.cls := findClass_of_methodNamed B.named
  have hlocks := B.notSynchronized
  subst hsz
  have hst := fun (H : Heap) (locs : List Loc) (hS : va_S (ga (adM a) s.heap.size) s.heap H locs) (U : State) (hU : U.heap = H) (hW : s.WarmedH U.vm) => zS_all adM_map hI0 hst0 hS hU hW
  have hAC : ∀ q ∈ adM a, ga (adM a) s.heap.size q := fun q h => Or.inl h
  have hA0 : ∀ q, s.heap.size ≤ q → ga (adM a) s.heap.size q := fun q h => Or.inr h
  have hI : sI (dC, dI) vcl cI cJ (gsM a th tr dp zi co sh lt ts mf) (ga (adM a) s.heap.size) s.heap s.heap [] := ⟨hI0, va_S.rf⟩
  clear hI0 hst0
  have hl := lv_entry ([.int x0, .int x1]) (n := 2) (Nat.le_of_ble_eq_true rfl)
  rw [lg_entry_eq]
  generalize (lg_sl ([.int x0, .int x1]) ++ List.replicate (2 - (lg_sl ([.int x0, .int x1])).length) Slot.unset).toArray = ls at hl ⊢
  have hl : lv_has ls 2 [(0, .int x0), (1, .int x1)] := hl
  generalize hZ : tz_MQ below (tq_Q (q_Mo_asks dC dI cI cJ a th tr dp zi co sh lt ts mf x0 x1) (ga (adM a) s.heap.size)) ([.int x0, .int x1] : List Value).toArray s 0 0 0 0 (ga (adM a) s.heap.size) = Z
  obtain ⟨A, hAe⟩ : ∃ A, A = ga (adM a) s.heap.size := ⟨_, rfl⟩
  rw [← hAe] at hst hAC hA0 hI hZ
  refine sv_start hI (fun H locs hI => ?_)
  obtain ⟨⟨o1, o2⟩, ⟨o3, o4⟩, ⟨o5, o6⟩, ⟨o7, o8⟩, ⟨o9, o10⟩, ⟨o11, o12⟩, ⟨o13, o14⟩, ⟨o15, o16⟩, -⟩ := id hok
  have gx0 := sn_rng x0
  have gx1 := sn_rng x1
  have j42u : ∀ (H : Heap) (locs : List Loc) (ls : Array Slot), sI (dC, dI) vcl cI cJ (gsM a th tr dp zi co sh lt ts mf) A s.heap H locs → okM th tr dp zi co sh lt ts mf → 0 ≤ x0.toInt → x0.toInt ≤ 2 → x1.toInt ≤ 10 → lv_has ls 2 [(0, .int x0), (1, .int x1)] → W p l e (headSpec tw_tbl rm_Mo_asks).room s m ([.int x0, .int x1] : List Value).toArray below meth c H locs 0 0 Z (F0 m 42 ls []) := by
    intro H locs ls hI hok g42_0 g42_1 g42_2 hl
    obtain ⟨⟨o17, o18⟩, ⟨o19, o20⟩, ⟨o21, o22⟩, ⟨o23, o24⟩, ⟨o25, o26⟩, ⟨o27, o28⟩, ⟨o29, o30⟩, ⟨o31, o32⟩, -⟩ := id hok
    refine sn_iconst hx hb d_Mo_asks_42 (by decide) (fun z33 hz33 => ?_)
    refine lv_goto (tgt := 47) hx hb d_Mo_asks_43 (by decide) ?_
    subst hZ
    exact tz_ret (W.zret (v := z33) hx hb hr (sn_bool (by omega) (by omega)).1 (fun t ht hW => ⟨⟨fun v9 hv9 => by cases hv9; exact (Or.inr (⟨z33, rfl, hok, by omega, by omega, by omega, by omega, by omega, by rw [ht]; exact hI.1⟩)), fun x9 hx9 => (by cases hx9)⟩, hI.2.F ht⟩) hI.2.2.2 d_Mo_asks_47)
  have j26u : ∀ (H : Heap) (locs : List Loc) (ls : Array Slot), sI (dC, dI) vcl cI cJ (gsM a th tr dp zi co sh lt ts mf) A s.heap H locs → okM th tr dp zi co sh lt ts mf → lv_has ls 2 [(0, .int x0), (1, .int x1)] → W p l e (headSpec tw_tbl rm_Mo_asks).room s m ([.int x0, .int x1] : List Value).toArray below meth c H locs 0 0 Z (F0 m 26 ls []) := by
    intro H locs ls hI hok hl
    obtain ⟨⟨o34, o35⟩, ⟨o36, o37⟩, ⟨o38, o39⟩, ⟨o40, o41⟩, ⟨o42, o43⟩, ⟨o44, o45⟩, ⟨o46, o47⟩, ⟨o48, o49⟩, -⟩ := id hok
    refine lv_iload_n hx hb d_Mo_asks_26 rfl (lv_at hl 0 rfl) ?_
    refine sn_iconst hx hb d_Mo_asks_27 (by decide) (fun z50 hz50 => ?_)
    refine sn_icmp_ne (tgt := 46) hx hb d_Mo_asks_28 (by decide) (fun b51 => ?_) (fun b51 => ?_)
    · refine sn_iconst hx hb d_Mo_asks_46 (by decide) (fun z52 hz52 => ?_)
      subst hZ
      exact tz_ret (W.zret (v := z52) hx hb hr (sn_bool (by omega) (by omega)).1 (fun t ht hW => ⟨⟨fun v9 hv9 => by cases hv9; exact (Or.inl ⟨z52, rfl, hok, by omega, by omega, by rw [ht]; exact hI.1⟩), fun x9 hx9 => (by cases hx9)⟩, hI.2.F ht⟩) hI.2.2.2 d_Mo_asks_47)
    · refine lv_iload_n hx hb d_Mo_asks_31 rfl (lv_at hl 1 rfl) ?_
      refine sn_iconst hx hb d_Mo_asks_32 (by decide) (fun z53 hz53 => ?_)
      refine sn_icmp_eq (tgt := 42) hx hb d_Mo_asks_33 (by decide) (fun b54 => ?_) (fun b54 => ?_)
      · exact j42u _ _ _  hI hok (by omega) (by omega) (by omega) (lv_sub hl [0, 1] rfl)
      · refine lv_iload_n hx hb d_Mo_asks_36 rfl (lv_at hl 1 rfl) ?_
        refine sn_bipush hx hb d_Mo_asks_37 (by decide) (fun z55 hz55 => ?_)
        refine sn_icmp_ne (tgt := 46) hx hb d_Mo_asks_39 (by decide) (fun b56 => ?_) (fun b56 => ?_)
        · refine sn_iconst hx hb d_Mo_asks_46 (by decide) (fun z57 hz57 => ?_)
          subst hZ
          exact tz_ret (W.zret (v := z57) hx hb hr (sn_bool (by omega) (by omega)).1 (fun t ht hW => ⟨⟨fun v9 hv9 => by cases hv9; exact (Or.inl ⟨z57, rfl, hok, by omega, by omega, by rw [ht]; exact hI.1⟩), fun x9 hx9 => (by cases hx9)⟩, hI.2.F ht⟩) hI.2.2.2 d_Mo_asks_47)
        · exact j42u _ _ _  hI hok (by omega) (by omega) (by omega) (lv_sub hl [0, 1] rfl)
  have j16u : ∀ (H : Heap) (locs : List Loc) (ls : Array Slot), sI (dC, dI) vcl cI cJ (gsM a th tr dp zi co sh lt ts mf) A s.heap H locs → okM th tr dp zi co sh lt ts mf → lv_has ls 2 [(0, .int x0), (1, .int x1)] → W p l e (headSpec tw_tbl rm_Mo_asks).room s m ([.int x0, .int x1] : List Value).toArray below meth c H locs 0 0 Z (F0 m 16 ls []) := by
    intro H locs ls hI hok hl
    obtain ⟨⟨o58, o59⟩, ⟨o60, o61⟩, ⟨o62, o63⟩, ⟨o64, o65⟩, ⟨o66, o67⟩, ⟨o68, o69⟩, ⟨o70, o71⟩, ⟨o72, o73⟩, -⟩ := id hok
    refine lv_iload_n hx hb d_Mo_asks_16 rfl (lv_at hl 0 rfl) ?_
    refine sn_iconst hx hb d_Mo_asks_17 (by decide) (fun z74 hz74 => ?_)
    refine sn_icmp_ne (tgt := 26) hx hb d_Mo_asks_18 (by decide) (fun b75 => ?_) (fun b75 => ?_)
    · exact j26u _ _ _  hI hok (lv_sub hl [0, 1] rfl)
    · refine lv_iload_n hx hb d_Mo_asks_21 rfl (lv_at hl 1 rfl) ?_
      refine sn_iconst hx hb d_Mo_asks_22 (by decide) (fun z76 hz76 => ?_)
      refine sn_icmp_lt (tgt := 42) hx hb d_Mo_asks_23 (by decide) (fun b77 => ?_) (fun b77 => ?_)
      · exact j42u _ _ _  hI hok (by omega) (by omega) (by omega) (lv_sub hl [0, 1] rfl)
      · exact j26u _ _ _  hI hok (lv_sub hl [0, 1] rfl)
  refine lv_iload_n hx hb d_Mo_asks_0 rfl (lv_at hl 0 rfl) ?_
  refine sn_if_ne (tgt := 16) hx hb d_Mo_asks_1 (by decide) (fun b78 => ?_) (fun b78 => ?_)
  · exact j16u _ _ _  hI hok (lv_sub hl [0, 1] rfl)
  · refine lv_iload_n hx hb d_Mo_asks_4 rfl (lv_at hl 1 rfl) ?_
    refine sn_bipush hx hb d_Mo_asks_5 (by decide) (fun z79 hz79 => ?_)
    refine sn_icmp_lt (tgt := 42) hx hb d_Mo_asks_7 (by decide) (fun b80 => ?_) (fun b80 => ?_)
    · exact j42u _ _ _  hI hok (by omega) (by omega) (by omega) (lv_sub hl [0, 1] rfl)
    · refine lv_iload_n hx hb d_Mo_asks_10 rfl (lv_at hl 1 rfl) ?_
      refine sn_bipush hx hb d_Mo_asks_11 (by decide) (fun z81 hz81 => ?_)
      refine sn_icmp_eq (tgt := 42) hx hb d_Mo_asks_13 (by decide) (fun b82 => ?_) (fun b82 => ?_)
      · exact j42u _ _ _  hI hok (by omega) (by omega) (by omega) (lv_sub hl [0, 1] rfl)
      · exact j16u _ _ _  hI hok (lv_sub hl [0, 1] rfl)
