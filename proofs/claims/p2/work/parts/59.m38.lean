abbrev q_Mo_copy_5_12 (dC : Nat → ClassId) (dI : Nat → Nat → Nat) (cI cJ : ClassId) (a : Nat → Nat) (th tr dp zi co sh lt ts : Int) (mf : Nat → Int32) (x2 : Int32) : Outcome → State → Prop := fun o t => (∀ v, o = .returned v → ((v = none ∧ okM th tr dp zi co sh lt ts mf ∧ sh_I (dC, dI) vcl cI cJ (gsM a th tr dp zi co sh lt ts mf) t.heap))) ∧ (∀ x, o = .threw x → (False))
def rm_Mo_copy_5_12 : Room := { frames := 0, cells := 0, slots := 0, locals := 0 }
set_option maxHeartbeats 4000000 in
set_option maxRecDepth 100000 in
theorem c_Mo_copy_5_12 (l : Launch) (hfl : l.flags = pinnedFlags ++ [noTraceFlag]) (dC : Nat → ClassId) (dI : Nat → Nat → Nat) (cI cJ : ClassId) (a : Nat → Nat) (sz : Nat) (th tr dp zi co sh lt ts : Int) (mf : Nat → Int32) (x2 : Int32) (hok : okM th tr dp zi co sh lt ts mf) (hp0 : 11 ≤ x2.toInt) (hp1 : x2.toInt ≤ 11) : tz_Met l ⟨"StoryMachineModel", "copy", "([I[II)V"⟩ tw_tbl rm_Mo_copy_5_12 (tzP (dC, dI) vcl cI cJ (gsM a th tr dp zi co sh lt ts mf) a (adM a) [.ref (a 5), .ref (a 12), .int x2] sz) (tq_Q (q_Mo_copy_5_12 dC dI cI cJ a th tr dp zi co sh lt ts mf x2) (ga (adM a) sz)) 0 0 0 0 (ga (adM a) sz) := by
  refine tz_ofW (cc := prog_13_method_56_code) (maxL := 4) (ret := none) (by decide) (tx_isM mw_1428) ?_
  intro p e s m args below meth c s₁ B hml hv
  obtain ⟨rfl, hsz, hI0, hK, hst0⟩ := hv
  have hx := B.exec
  have hb := B.bytes
  have hr := B.returns
  have hts := atoms_spec (ws := tw_tbl) B.pre
  have hown : s.vm.findClass "StoryMachineModel" = some m.cls := findClass_of_methodNamed B.named
  have hlocks := B.notSynchronized
  subst hsz
  have hst := fun (H : Heap) (locs : List Loc) (hS : va_S (ga (adM a) s.heap.size) s.heap H locs) (U : State) (hU : U.heap = H) (hW : s.WarmedH U.vm) => zS_all adM_map hI0 hst0 hS hU hW
  have hAC : ∀ q ∈ adM a, ga (adM a) s.heap.size q := fun q h => Or.inl h
  have hA0 : ∀ q, s.heap.size ≤ q → ga (adM a) s.heap.size q := fun q h => Or.inr h
  have hI : sI (dC, dI) vcl cI cJ (gsM a th tr dp zi co sh lt ts mf) (ga (adM a) s.heap.size) s.heap s.heap [] := ⟨hI0, va_S.rf⟩
  clear hI0 hst0
  have hl := lv_entry ([.ref (a 5), .ref (a 12), .int x2]) (n := 4) (Nat.le_of_ble_eq_true rfl)
  rw [lg_entry_eq]
  generalize (lg_sl ([.ref (a 5), .ref (a 12), .int x2]) ++ List.replicate (4 - (lg_sl ([.ref (a 5), .ref (a 12), .int x2])).length) Slot.unset).toArray = ls at hl ⊢
  have hl : lv_has ls 4 [(0, .ref (a 5)), (1, .ref (a 12)), (2, .int x2)] := hl
  generalize hZ : tz_MQ below (tq_Q (q_Mo_copy_5_12 dC dI cI cJ a th tr dp zi co sh lt ts mf x2) (ga (adM a) s.heap.size)) ([.ref (a 5), .ref (a 12), .int x2] : List Value).toArray s 0 0 0 0 (ga (adM a) s.heap.size) = Z
  obtain ⟨A, hAe⟩ : ∃ A, A = ga (adM a) s.heap.size := ⟨_, rfl⟩
  rw [← hAe] at hst hAC hA0 hI hZ
  refine sv_start hI (fun H locs hI => ?_)
  obtain ⟨⟨o1, o2⟩, ⟨o3, o4⟩, ⟨o5, o6⟩, ⟨o7, o8⟩, ⟨o9, o10⟩, ⟨o11, o12⟩, ⟨o13, o14⟩, ⟨o15, o16⟩, -⟩ := id hok
  have gx2 := sn_rng x2
  have j2 : ∀ (n : Nat) (H : Heap) (locs : List Loc) (ls : Array Slot) (v2_3 : Int32), sI (dC, dI) vcl cI cJ (gsM a th tr dp zi co sh lt ts mf) A s.heap H locs → okM th tr dp zi co sh lt ts mf → 0 ≤ v2_3.toInt → v2_3.toInt ≤ 11 → lv_has ls 4 [(0, .ref (a 5)), (1, .ref (a 12)), (2, .int x2), (3, .int v2_3)] → 11 - v2_3.toInt < (n : Int) → W p l e (headSpec tw_tbl rm_Mo_copy_5_12).room s m ([.ref (a 5), .ref (a 12), .int x2] : List Value).toArray below meth c H locs 0 0 Z (F0 m 2 ls []) := by
    intro n
    induction n with
    | zero => intro H locs ls v2_3 hI hok g2_0 g2_1 hl hme; exfalso; obtain ⟨⟨o17, o18⟩, ⟨o19, o20⟩, ⟨o21, o22⟩, ⟨o23, o24⟩, ⟨o25, o26⟩, ⟨o27, o28⟩, ⟨o29, o30⟩, ⟨o31, o32⟩, -⟩ := id hok; omega
    | succ n ih =>
      intro H locs ls v2_3 hI hok g2_0 g2_1 hl hme
      obtain ⟨⟨o33, o34⟩, ⟨o35, o36⟩, ⟨o37, o38⟩, ⟨o39, o40⟩, ⟨o41, o42⟩, ⟨o43, o44⟩, ⟨o45, o46⟩, ⟨o47, o48⟩, -⟩ := id hok
      refine lv_iload_n hx hb d_Mo_copy_2 rfl (lv_at hl 3 rfl) ?_
      refine lv_iload_n hx hb d_Mo_copy_3 rfl (lv_at hl 2 rfl) ?_
      refine sn_icmp_ge (tgt := 19) hx hb d_Mo_copy_4 (by decide) (fun b49 => ?_) (fun b49 => ?_)
      · subst hZ
        exact tz_ret (W.vret hx hb hr (fun t ht hW => ⟨⟨fun v9 hv9 => by cases hv9; exact (⟨rfl, hok, by rw [ht]; exact hI.1⟩), fun x9 hx9 => (by cases hx9)⟩, hI.2.F ht⟩) hI.2.2.2 d_Mo_copy_19)
      · refine lv_aload_n hx hb d_Mo_copy_7 rfl (lv_at hl 1 rfl) ?_
        refine lv_iload_n hx hb d_Mo_copy_8 rfl (lv_at hl 3 rfl) ?_
        refine lv_aload_n hx hb d_Mo_copy_9 rfl (lv_at hl 0 rfl) ?_
        refine lv_iload_n hx hb d_Mo_copy_10 rfl (lv_at hl 3 rfl) ?_
        refine sv_ialdr hx hb hK hI 5 kM_5 (by omega) (by omega) d_Mo_copy_11 (fun z50 hz50a hz50b => ?_)
        refine sv_iastr hx hb hK (sh_in adM_map hAC) hI 12 kM_12 (by omega) (by omega) (by omega) (by omega) pM_12 d_Mo_copy_12 (fun H locs hI => ?_)
        refine sn_iinc (k := 3) hx hb d_Mo_copy_13 hl rfl (by decide) (by decide) (by omega) (by omega) (fun ls z51 hz51 hl => ?_)
        have hl : lv_has ls 4 [(3, .int z51), (0, .ref (a 5)), (1, .ref (a 12)), (2, .int x2)] := hl
        refine lv_goto (tgt := 2) hx hb d_Mo_copy_16 (by decide) ?_
        exact ih _ _ _ z51 hI hok (by omega) (by omega) (lv_sub hl [1, 2, 3, 0] rfl) (by omega)
  refine sn_iconst hx hb d_Mo_copy_0 (by decide) (fun z52 hz52 => ?_)
  refine lv_istore_n (lv' := [(3, .int z52), (0, .ref (a 5)), (1, .ref (a 12)), (2, .int x2)]) hx hb d_Mo_copy_1 rfl hl (by decide) rfl (fun ls hl => ?_)
  exact j2 12 _ _ _ z52 hI hok (by omega) (by omega) (lv_sub hl [1, 2, 3, 0] rfl) (by omega)
abbrev q_Mo_copy_6_13 (dC : Nat → ClassId) (dI : Nat → Nat → Nat) (cI cJ : ClassId) (a : Nat → Nat) (th tr dp zi co sh lt ts : Int) (mf : Nat → Int32) (x2 : Int32) : Outcome → State → Prop := fun o t => (∀ v, o = .returned v → ((v = none ∧ okM th tr dp zi co sh lt ts mf ∧ sh_I (dC, dI) vcl cI cJ (gsM a th tr dp zi co sh lt ts mf) t.heap))) ∧ (∀ x, o = .threw x → (False))
def rm_Mo_copy_6_13 : Room := { frames := 0, cells := 0, slots := 0, locals := 0 }
set_option maxHeartbeats 4000000 in
set_option maxRecDepth 100000 in
theorem c_Mo_copy_6_13 (l : Launch) (hfl : l.flags = pinnedFlags ++ [noTraceFlag]) (dC : Nat → ClassId) (dI : Nat → Nat → Nat) (cI cJ : ClassId) (a : Nat → Nat) (sz : Nat) (th tr dp zi co sh lt ts : Int) (mf : Nat → Int32) (x2 : Int32) (hok : okM th tr dp zi co sh lt ts mf) (hp0 : 11 ≤ x2.toInt) (hp1 : x2.toInt ≤ 11) : tz_Met l ⟨"StoryMachineModel", "copy", "([I[II)V"⟩ tw_tbl rm_Mo_copy_6_13 (tzP (dC, dI) vcl cI cJ (gsM a th tr dp zi co sh lt ts mf) a (adM a) [.ref (a 6), .ref (a 13), .int x2] sz) (tq_Q (q_Mo_copy_6_13 dC dI cI cJ a th tr dp zi co sh lt ts mf x2) (ga (adM a) sz)) 0 0 0 0 (ga (adM a) sz) := by
  refine tz_ofW (cc := prog_13_method_56_code) (maxL := 4) (ret := none) (by decide) (tx_isM mw_1428) ?_
  intro p e s m args below meth c s₁ B hml hv
  obtain ⟨rfl, hsz, hI0, hK, hst0⟩ := hv
  have hx := B.exec
  have hb := B.bytes
  have hr := B.returns
  have hts := atoms_spec (ws := tw_tbl) B.pre
  have hown : s.vm.findClass "StoryMachineModel" = some m.cls := findClass_of_methodNamed B.named
  have hlocks := B.notSynchronized
  subst hsz
  have hst := fun (H : Heap) (locs : List Loc) (hS : va_S (ga (adM a) s.heap.size) s.heap H locs) (U : State) (hU : U.heap = H) (hW : s.WarmedH U.vm) => zS_all adM_map hI0 hst0 hS hU hW
  have hAC : ∀ q ∈ adM a, ga (adM a) s.heap.size q := fun q h => Or.inl h
  have hA0 : ∀ q, s.heap.size ≤ q → ga (adM a) s.heap.size q := fun q h => Or.inr h
  have hI : sI (dC, dI) vcl cI cJ (gsM a th tr dp zi co sh lt ts mf) (ga (adM a) s.heap.size) s.heap s.heap [] := ⟨hI0, va_S.rf⟩
  clear hI0 hst0
  have hl := lv_entry ([.ref (a 6), .ref (a 13), .int x2]) (n := 4) (Nat.le_of_ble_eq_true rfl)
  rw [lg_entry_eq]
  generalize (lg_sl ([.ref (a 6), .ref (a 13), .int x2]) ++ List.replicate (4 - (lg_sl ([.ref (a 6), .ref (a 13), .int x2])).length) Slot.unset).toArray = ls at hl ⊢
  have hl : lv_has ls 4 [(0, .ref (a 6)), (1, .ref (a 13)), (2, .int x2)] := hl
  generalize hZ : tz_MQ below (tq_Q (q_Mo_copy_6_13 dC dI cI cJ a th tr dp zi co sh lt ts mf x2) (ga (adM a) s.heap.size)) ([.ref (a 6), .ref (a 13), .int x2] : List Value).toArray s 0 0 0 0 (ga (adM a) s.heap.size) = Z
  obtain ⟨A, hAe⟩ : ∃ A, A = ga (adM a) s.heap.size := ⟨_, rfl⟩
  rw [← hAe] at hst hAC hA0 hI hZ
  refine sv_start hI (fun H locs hI => ?_)
  obtain ⟨⟨o1, o2⟩, ⟨o3, o4⟩, ⟨o5, o6⟩, ⟨o7, o8⟩, ⟨o9, o10⟩, ⟨o11, o12⟩, ⟨o13, o14⟩, ⟨o15, o16⟩, -⟩ := id hok
  have gx2 := sn_rng x2
  have j2 : ∀ (n : Nat) (H : Heap) (locs : List Loc) (ls : Array Slot) (v2_3 : Int32), sI (dC, dI) vcl cI cJ (gsM a th tr dp zi co sh lt ts mf) A s.heap H locs → okM th tr dp zi co sh lt ts mf → 0 ≤ v2_3.toInt → v2_3.toInt ≤ 11 → lv_has ls 4 [(0, .ref (a 6)), (1, .ref (a 13)), (2, .int x2), (3, .int v2_3)] → 11 - v2_3.toInt < (n : Int) → W p l e (headSpec tw_tbl rm_Mo_copy_6_13).room s m ([.ref (a 6), .ref (a 13), .int x2] : List Value).toArray below meth c H locs 0 0 Z (F0 m 2 ls []) := by
    intro n
    induction n with
    | zero => intro H locs ls v2_3 hI hok g2_0 g2_1 hl hme; exfalso; obtain ⟨⟨o17, o18⟩, ⟨o19, o20⟩, ⟨o21, o22⟩, ⟨o23, o24⟩, ⟨o25, o26⟩, ⟨o27, o28⟩, ⟨o29, o30⟩, ⟨o31, o32⟩, -⟩ := id hok; omega
    | succ n ih =>
      intro H locs ls v2_3 hI hok g2_0 g2_1 hl hme
      obtain ⟨⟨o33, o34⟩, ⟨o35, o36⟩, ⟨o37, o38⟩, ⟨o39, o40⟩, ⟨o41, o42⟩, ⟨o43, o44⟩, ⟨o45, o46⟩, ⟨o47, o48⟩, -⟩ := id hok
      refine lv_iload_n hx hb d_Mo_copy_2 rfl (lv_at hl 3 rfl) ?_
      refine lv_iload_n hx hb d_Mo_copy_3 rfl (lv_at hl 2 rfl) ?_
      refine sn_icmp_ge (tgt := 19) hx hb d_Mo_copy_4 (by decide) (fun b49 => ?_) (fun b49 => ?_)
      · subst hZ
        exact tz_ret (W.vret hx hb hr (fun t ht hW => ⟨⟨fun v9 hv9 => by cases hv9; exact (⟨rfl, hok, by rw [ht]; exact hI.1⟩), fun x9 hx9 => (by cases hx9)⟩, hI.2.F ht⟩) hI.2.2.2 d_Mo_copy_19)
      · refine lv_aload_n hx hb d_Mo_copy_7 rfl (lv_at hl 1 rfl) ?_
        refine lv_iload_n hx hb d_Mo_copy_8 rfl (lv_at hl 3 rfl) ?_
        refine lv_aload_n hx hb d_Mo_copy_9 rfl (lv_at hl 0 rfl) ?_
        refine lv_iload_n hx hb d_Mo_copy_10 rfl (lv_at hl 3 rfl) ?_
        refine sv_ialdr hx hb hK hI 6 kM_6 (by omega) (by omega) d_Mo_copy_11 (fun z50 hz50a hz50b => ?_)
        refine sv_iastr hx hb hK (sh_in adM_map hAC) hI 13 kM_13 (by omega) (by omega) (by omega) (by omega) pM_13 d_Mo_copy_12 (fun H locs hI => ?_)
        refine sn_iinc (k := 3) hx hb d_Mo_copy_13 hl rfl (by decide) (by decide) (by omega) (by omega) (fun ls z51 hz51 hl => ?_)
        have hl : lv_has ls 4 [(3, .int z51), (0, .ref (a 6)), (1, .ref (a 13)), (2, .int x2)] := hl
        refine lv_goto (tgt := 2) hx hb d_Mo_copy_16 (by decide) ?_
        exact ih _ _ _ z51 hI hok (by omega) (by omega) (lv_sub hl [1, 2, 3, 0] rfl) (by omega)
  refine sn_iconst hx hb d_Mo_copy_0 (by decide) (fun z52 hz52 => ?_)
  refine lv_istore_n (lv' := [(3, .int z52), (0, .ref (a 6)), (1, .ref (a 13)), (2, .int x2)]) hx hb d_Mo_copy_1 rfl hl (by decide) rfl (fun ls hl => ?_)
  exact j2 12 _ _ _ z52 hI hok (by omega) (by omega) (lv_sub hl [1, 2, 3, 0] rfl) (by omega)
abbrev q_Mo_copy_7_14 (dC : Nat → ClassId) (dI : Nat → Nat → Nat) (cI cJ : ClassId) (a : Nat → Nat) (th tr dp zi co sh lt ts : Int) (mf : Nat → Int32) (x2 : Int32) : Outcome → State → Prop := fun o t => (∀ v, o = .returned v → ((v = none ∧ okM th tr dp zi co sh lt ts mf ∧ sh_I (dC, dI) vcl cI cJ (gsM a th tr dp zi co sh lt ts mf) t.heap))) ∧ (∀ x, o = .threw x → (False))
def rm_Mo_copy_7_14 : Room := { frames := 0, cells := 0, slots := 0, locals := 0 }
set_option maxHeartbeats 4000000 in
set_option maxRecDepth 100000 in
theorem c_Mo_copy_7_14 (l : Launch) (hfl : l.flags = pinnedFlags ++ [noTraceFlag]) (dC : Nat → ClassId) (dI : Nat → Nat → Nat) (cI cJ : ClassId) (a : Nat → Nat) (sz : Nat) (th tr dp zi co sh lt ts : Int) (mf : Nat → Int32) (x2 : Int32) (hok : okM th tr dp zi co sh lt ts mf) (hp0 : 165 ≤ x2.toInt) (hp1 : x2.toInt ≤ 165) : tz_Met l ⟨"StoryMachineModel", "copy", "([I[II)V"⟩ tw_tbl rm_Mo_copy_7_14 (tzP (dC, dI) vcl cI cJ (gsM a th tr dp zi co sh lt ts mf) a (adM a) [.ref (a 7), .ref (a 14), .int x2] sz) (tq_Q (q_Mo_copy_7_14 dC dI cI cJ a th tr dp zi co sh lt ts mf x2) (ga (adM a) sz)) 0 0 0 0 (ga (adM a) sz) := by
  refine tz_ofW (cc := prog_13_method_56_code) (maxL := 4) (ret := none) (by decide) (tx_isM mw_1428) ?_
  intro p e s m args below meth c s₁ B hml hv
  obtain ⟨rfl, hsz, hI0, hK, hst0⟩ := hv
  have hx := B.exec
  have hb := B.bytes
  have hr := B.returns
  have hts := atoms_spec (ws := tw_tbl) B.pre
  have hown : s.vm.findClass "StoryMachineModel" = some m.cls := findClass_of_methodNamed B.named
  have hlocks := B.notSynchronized
  subst hsz
  have hst := fun (H : Heap) (locs : List Loc) (hS : va_S (ga (adM a) s.heap.size) s.heap H locs) (U : State) (hU : U.heap = H) (hW : s.WarmedH U.vm) => zS_all adM_map hI0 hst0 hS hU hW
  have hAC : ∀ q ∈ adM a, ga (adM a) s.heap.size q := fun q h => Or.inl h
  have hA0 : ∀ q, s.heap.size ≤ q → ga (adM a) s.heap.size q := fun q h => Or.inr h
  have hI : sI (dC, dI) vcl cI cJ (gsM a th tr dp zi co sh lt ts mf) (ga (adM a) s.heap.size) s.heap s.heap [] := ⟨hI0, va_S.rf⟩
  clear hI0 hst0
  have hl := lv_entry ([.ref (a 7), .ref (a 14), .int x2]) (n := 4) (Nat.le_of_ble_eq_true rfl)
  rw [lg_entry_eq]
  generalize (lg_sl ([.ref (a 7), .ref (a 14), .int x2]) ++ List.replicate (4 - (lg_sl ([.ref (a 7), .ref (a 14), .int x2])).length) Slot.unset).toArray = ls at hl ⊢
  have hl : lv_has ls 4 [(0, .ref (a 7)), (1, .ref (a 14)), (2, .int x2)] := hl
  generalize hZ : tz_MQ below (tq_Q (q_Mo_copy_7_14 dC dI cI cJ a th tr dp zi co sh lt ts mf x2) (ga (adM a) s.heap.size)) ([.ref (a 7), .ref (a 14), .int x2] : List Value).toArray s 0 0 0 0 (ga (adM a) s.heap.size) = Z
  obtain ⟨A, hAe⟩ : ∃ A, A = ga (adM a) s.heap.size := ⟨_, rfl⟩
  rw [← hAe] at hst hAC hA0 hI hZ
  refine sv_start hI (fun H locs hI => ?_)
  obtain ⟨⟨o1, o2⟩, ⟨o3, o4⟩, ⟨o5, o6⟩, ⟨o7, o8⟩, ⟨o9, o10⟩, ⟨o11, o12⟩, ⟨o13, o14⟩, ⟨o15, o16⟩, -⟩ := id hok
  have gx2 := sn_rng x2
  have j2 : ∀ (n : Nat) (H : Heap) (locs : List Loc) (ls : Array Slot) (v2_3 : Int32), sI (dC, dI) vcl cI cJ (gsM a th tr dp zi co sh lt ts mf) A s.heap H locs → okM th tr dp zi co sh lt ts mf → 0 ≤ v2_3.toInt → v2_3.toInt ≤ 165 → lv_has ls 4 [(0, .ref (a 7)), (1, .ref (a 14)), (2, .int x2), (3, .int v2_3)] → 165 - v2_3.toInt < (n : Int) → W p l e (headSpec tw_tbl rm_Mo_copy_7_14).room s m ([.ref (a 7), .ref (a 14), .int x2] : List Value).toArray below meth c H locs 0 0 Z (F0 m 2 ls []) := by
    intro n
    induction n with
    | zero => intro H locs ls v2_3 hI hok g2_0 g2_1 hl hme; exfalso; obtain ⟨⟨o17, o18⟩, ⟨o19, o20⟩, ⟨o21, o22⟩, ⟨o23, o24⟩, ⟨o25, o26⟩, ⟨o27, o28⟩, ⟨o29, o30⟩, ⟨o31, o32⟩, -⟩ := id hok; omega
    | succ n ih =>
      intro H locs ls v2_3 hI hok g2_0 g2_1 hl hme
      obtain ⟨⟨o33, o34⟩, ⟨o35, o36⟩, ⟨o37, o38⟩, ⟨o39, o40⟩, ⟨o41, o42⟩, ⟨o43, o44⟩, ⟨o45, o46⟩, ⟨o47, o48⟩, -⟩ := id hok
      refine lv_iload_n hx hb d_Mo_copy_2 rfl (lv_at hl 3 rfl) ?_
      refine lv_iload_n hx hb d_Mo_copy_3 rfl (lv_at hl 2 rfl) ?_
      refine sn_icmp_ge (tgt := 19) hx hb d_Mo_copy_4 (by decide) (fun b49 => ?_) (fun b49 => ?_)
      · subst hZ
        exact tz_ret (W.vret hx hb hr (fun t ht hW => ⟨⟨fun v9 hv9 => by cases hv9; exact (⟨rfl, hok, by rw [ht]; exact hI.1⟩), fun x9 hx9 => (by cases hx9)⟩, hI.2.F ht⟩) hI.2.2.2 d_Mo_copy_19)
      · refine lv_aload_n hx hb d_Mo_copy_7 rfl (lv_at hl 1 rfl) ?_
        refine lv_iload_n hx hb d_Mo_copy_8 rfl (lv_at hl 3 rfl) ?_
        refine lv_aload_n hx hb d_Mo_copy_9 rfl (lv_at hl 0 rfl) ?_
        refine lv_iload_n hx hb d_Mo_copy_10 rfl (lv_at hl 3 rfl) ?_
        refine sv_ialdr hx hb hK hI 7 kM_7 (by omega) (by omega) d_Mo_copy_11 (fun z50 hz50a hz50b => ?_)
        refine sv_iastr hx hb hK (sh_in adM_map hAC) hI 14 kM_14 (by omega) (by omega) (by omega) (by omega) pM_14 d_Mo_copy_12 (fun H locs hI => ?_)
        refine sn_iinc (k := 3) hx hb d_Mo_copy_13 hl rfl (by decide) (by decide) (by omega) (by omega) (fun ls z51 hz51 hl => ?_)
        have hl : lv_has ls 4 [(3, .int z51), (0, .ref (a 7)), (1, .ref (a 14)), (2, .int x2)] := hl
        refine lv_goto (tgt := 2) hx hb d_Mo_copy_16 (by decide) ?_
        exact ih _ _ _ z51 hI hok (by omega) (by omega) (lv_sub hl [1, 2, 3, 0] rfl) (by omega)
  refine sn_iconst hx hb d_Mo_copy_0 (by decide) (fun z52 hz52 => ?_)
  refine lv_istore_n (lv' := [(3, .int z52), (0, .ref (a 7)), (1, .ref (a 14)), (2, .int x2)]) hx hb d_Mo_copy_1 rfl hl (by decide) rfl (fun ls hl => ?_)
  exact j2 166 _ _ _ z52 hI hok (by omega) (by omega) (lv_sub hl [1, 2, 3, 0] rfl) (by omega)
abbrev q_Mo_save (dC : Nat → ClassId) (dI : Nat → Nat → Nat) (cI cJ : ClassId) (a : Nat → Nat) (th tr dp zi co sh lt ts : Int) (mf : Nat → Int32) : Outcome → State → Prop := fun o t => (∀ v, o = .returned v → ((∃ (tr_ dp_ zi_ : Int), v = none ∧ okM th tr_ dp_ zi_ co sh lt ts mf ∧ (1 ≤ tr_) ∧ sh_I (dC, dI) vcl cI cJ (gsM a th tr_ dp_ zi_ co sh lt ts mf) t.heap) ∨ (∃ (dp_ zi_ : Int) (mf_ : Nat → Int32), v = none ∧ okM th tr dp_ zi_ co sh lt ts mf_ ∧ (tr ≤ 0) ∧ sh_I (dC, dI) vcl cI cJ (gsM a th tr dp_ zi_ co sh lt ts mf_) t.heap))) ∧ (∀ x, o = .threw x → (False))
def rm_Mo_save : Room := { frames := 7, cells := 0, slots := 0, locals := 153 }
set_option maxHeartbeats 4000000 in
set_option maxRecDepth 100000 in
theorem c_Mo_save (l : Launch) (hfl : l.flags = pinnedFlags ++ [noTraceFlag]) (dC : Nat → ClassId) (dI : Nat → Nat → Nat) (cI cJ : ClassId) (a : Nat → Nat) (sz : Nat) (th tr dp zi co sh lt ts : Int) (mf : Nat → Int32) (hok : okM th tr dp zi co sh lt ts mf) : tz_Met l ⟨"StoryMachineModel", "save", "()V"⟩ tw_tbl rm_Mo_save (tzP (dC, dI) vcl cI cJ (gsM a th tr dp zi co sh lt ts mf) a (adM a) [.ref (a 0)] sz) (tq_Q (q_Mo_save dC dI cI cJ a th tr dp zi co sh lt ts mf) (ga (adM a) sz)) 0 0 0 0 (ga (adM a) sz) := by
  refine tz_ofW (cc := prog_13_method_57_code) (maxL := 1) (ret := none) (by decide) (tx_isM mw_1425) ?_
  intro p e s m args below meth c s₁ B hml hv
  obtain ⟨rfl, hsz, hI0, hK, hst0⟩ := hv
  have hx := B.exec
  have hb := B.bytes
  have hr := B.returns
  have hts := atoms_spec (ws := tw_tbl) B.pre
  have hown : s.vm.findClass "StoryMachineModel" = some m.cls := findClass_of_methodNamed B.named
  have hlocks := B.notSynchronized
  subst hsz
  have hst := fun (H : Heap) (locs : List Loc) (hS : va_S (ga (adM a) s.heap.size) s.heap H locs) (U : State) (hU : U.heap = H) (hW : s.WarmedH U.vm) => zS_all adM_map hI0 hst0 hS hU hW
  have hAC : ∀ q ∈ adM a, ga (adM a) s.heap.size q := fun q h => Or.inl h
  have hA0 : ∀ q, s.heap.size ≤ q → ga (adM a) s.heap.size q := fun q h => Or.inr h
  have hI : sI (dC, dI) vcl cI cJ (gsM a th tr dp zi co sh lt ts mf) (ga (adM a) s.heap.size) s.heap s.heap [] := ⟨hI0, va_S.rf⟩
  clear hI0 hst0
  have hl := lv_entry ([.ref (a 0)]) (n := 1) (Nat.le_of_ble_eq_true rfl)
  rw [lg_entry_eq]
  generalize (lg_sl ([.ref (a 0)]) ++ List.replicate (1 - (lg_sl ([.ref (a 0)])).length) Slot.unset).toArray = ls at hl ⊢
  have hl : lv_has ls 1 [(0, .ref (a 0))] := hl
  generalize hZ : tz_MQ below (tq_Q (q_Mo_save dC dI cI cJ a th tr dp zi co sh lt ts mf) (ga (adM a) s.heap.size)) ([.ref (a 0)] : List Value).toArray s 0 0 0 0 (ga (adM a) s.heap.size) = Z
  obtain ⟨A, hAe⟩ : ∃ A, A = ga (adM a) s.heap.size := ⟨_, rfl⟩
  rw [← hAe] at hst hAC hA0 hI hZ
  refine sv_start hI (fun H locs hI => ?_)
  obtain ⟨⟨o1, o2⟩, ⟨o3, o4⟩, ⟨o5, o6⟩, ⟨o7, o8⟩, ⟨o9, o10⟩, ⟨o11, o12⟩, ⟨o13, o14⟩, ⟨o15, o16⟩, -⟩ := id hok
  refine lv_aload_n hx hb d_Mo_save_0 rfl (lv_at hl 0 rfl) ?_
  refine sn_iconst hx hb d_Mo_save_1 (by decide) (fun z17 hz17 => ?_)
  refine sv_put (C := "StoryMachineModel") (T := T_Mo) (N := 51) (ty := .boolean) hx hb hts in_Mo t_Mo tk_Mo nm_Mo hown hK (sh_in adM_map hAC) hI 0 kM_0 rfl 10 (by decide) (hts _ mw_1073) rfl (by decide +kernel) (sn_bool (by omega) (by omega)).1 (sn_bool (by omega) (by omega)).2 (Nat.le_of_ble_eq_true rfl) (by omega) (by omega) pM_0_10 d_Mo_save_2 (fun H locs hI => ?_)
  refine lv_aload_n hx hb d_Mo_save_5 rfl (lv_at hl 0 rfl) ?_
  refine sv_getr (C := "StoryMachineModel") (T := T_Mo) (N := 51) hx hb hts in_Mo hown hK hI 0 kM_0 rfl 1 (by decide) (hts _ mw_1064) rfl d_Mo_save_6 ?_
  refine lv_aload_n hx hb d_Mo_save_9 rfl (lv_at hl 0 rfl) ?_
  refine sv_getr (C := "StoryMachineModel") (T := T_Mo) (N := 51) hx hb hts in_Mo hown hK hI 0 kM_0 rfl 11 (by decide) (hts _ mw_1074) rfl d_Mo_save_10 ?_
  refine sn_sipush hx hb d_Mo_save_13 (by decide) (fun z18 hz18 => ?_)
  refine tz_call (A1 := ga (adM a) H.size) (tz_runS (As := [.ref (a 1), .ref (a 8), .int z18]) (rest := []) ⟨hx, hb, hml, hown, hts⟩ (c_Mo_copy_1_8 l hfl dC dI cI cJ a H.size th tr dp zi co sh lt ts mf z18 hok (by omega) (by omega)) (tx_cb (n := 3) hts rfl rfl ⟨Nat.le_of_ble_eq_true rfl, Nat.le_of_ble_eq_true rfl⟩ (tx_code.of (hts _ mw_1428)) (hts _ mw_12) (by decide +kernel) (hts _ mw_1426)) (hts _ mw_1427) ⟨tz_blind, fun U hU hW => ⟨rfl, by rw [hU], by rw [hU]; exact hI.1, va_K.moved hW.alike hK, hst _ _ hI.2 U hU hW⟩⟩ rfl rfl hl.1 rfl (lv_room (Nat.le_of_ble_eq_true rfl)) d_Mo_save_16 ⟨Nat.le_of_ble_eq_true rfl, Nat.le_of_ble_eq_true rfl⟩) hI.2 (fun q _ h => ga_sub hAC hA0 hI.2 q h) (ga_sub hAC hA0 hI.2) (fun v t H1 locs1 ht hWt hpost _ _ hS => ?_) (fun x t H1 locs1 ht hWt hpost _ _ hS => (hpost.2 x rfl).elim)
  rcases hpost.1 _ rfl with ⟨hv, c19, hI1⟩
  cases hv
  have hI : sI (dC, dI) vcl cI cJ (gsM a th tr dp zi co sh lt ts mf) A s.heap H1 locs1 := ⟨by rw [← ht]; exact hI1, hS⟩
  clear hpost hI1 hS ht hWt
  revert hI; generalize H1 = H; generalize locs1 = locs; intro hI
  refine lv_aload_n hx hb d_Mo_save_19 rfl (lv_at hl 0 rfl) ?_
  refine sv_getr (C := "StoryMachineModel") (T := T_Mo) (N := 51) hx hb hts in_Mo hown hK hI 0 kM_0 rfl 3 (by decide) (hts _ mw_1066) rfl d_Mo_save_20 ?_
  refine lv_aload_n hx hb d_Mo_save_23 rfl (lv_at hl 0 rfl) ?_
  refine sv_getr (C := "StoryMachineModel") (T := T_Mo) (N := 51) hx hb hts in_Mo hown hK hI 0 kM_0 rfl 13 (by decide) (hts _ mw_1076) rfl d_Mo_save_24 ?_
  refine sn_bipush hx hb d_Mo_save_27 (by decide) (fun z20 hz20 => ?_)
  refine tz_call (A1 := ga (adM a) H.size) (tz_runS (As := [.ref (a 2), .ref (a 9), .int z20]) (rest := []) ⟨hx, hb, hml, hown, hts⟩ (c_Mo_copy_2_9 l hfl dC dI cI cJ a H.size th tr dp zi co sh lt ts mf z20 c19 (by omega) (by omega)) (tx_cb (n := 3) hts rfl rfl ⟨Nat.le_of_ble_eq_true rfl, Nat.le_of_ble_eq_true rfl⟩ (tx_code.of (hts _ mw_1428)) (hts _ mw_12) (by decide +kernel) (hts _ mw_1426)) (hts _ mw_1427) ⟨tz_blind, fun U hU hW => ⟨rfl, by rw [hU], by rw [hU]; exact hI.1, va_K.moved hW.alike hK, hst _ _ hI.2 U hU hW⟩⟩ rfl rfl hl.1 rfl (lv_room (Nat.le_of_ble_eq_true rfl)) d_Mo_save_29 ⟨Nat.le_of_ble_eq_true rfl, Nat.le_of_ble_eq_true rfl⟩) hI.2 (fun q _ h => ga_sub hAC hA0 hI.2 q h) (ga_sub hAC hA0 hI.2) (fun v t H1 locs1 ht hWt hpost _ _ hS => ?_) (fun x t H1 locs1 ht hWt hpost _ _ hS => (hpost.2 x rfl).elim)
  rcases hpost.1 _ rfl with ⟨hv, c21, hI1⟩
  cases hv
  have hI : sI (dC, dI) vcl cI cJ (gsM a th tr dp zi co sh lt ts mf) A s.heap H1 locs1 := ⟨by rw [← ht]; exact hI1, hS⟩
  clear hpost hI1 hS ht hWt
  revert hI; generalize H1 = H; generalize locs1 = locs; intro hI
  refine lv_aload_n hx hb d_Mo_save_32 rfl (lv_at hl 0 rfl) ?_
  refine sv_getr (C := "StoryMachineModel") (T := T_Mo) (N := 51) hx hb hts in_Mo hown hK hI 0 kM_0 rfl 5 (by decide) (hts _ mw_1068) rfl d_Mo_save_33 ?_
  refine lv_aload_n hx hb d_Mo_save_36 rfl (lv_at hl 0 rfl) ?_
  refine sv_getr (C := "StoryMachineModel") (T := T_Mo) (N := 51) hx hb hts in_Mo hown hK hI 0 kM_0 rfl 15 (by decide) (hts _ mw_1078) rfl d_Mo_save_37 ?_
  refine sn_bipush hx hb d_Mo_save_40 (by decide) (fun z22 hz22 => ?_)
  refine tz_call (A1 := ga (adM a) H.size) (tz_runS (As := [.ref (a 3), .ref (a 10), .int z22]) (rest := []) ⟨hx, hb, hml, hown, hts⟩ (c_Mo_copy_3_10 l hfl dC dI cI cJ a H.size th tr dp zi co sh lt ts mf z22 c21 (by omega) (by omega)) (tx_cb (n := 3) hts rfl rfl ⟨Nat.le_of_ble_eq_true rfl, Nat.le_of_ble_eq_true rfl⟩ (tx_code.of (hts _ mw_1428)) (hts _ mw_12) (by decide +kernel) (hts _ mw_1426)) (hts _ mw_1427) ⟨tz_blind, fun U hU hW => ⟨rfl, by rw [hU], by rw [hU]; exact hI.1, va_K.moved hW.alike hK, hst _ _ hI.2 U hU hW⟩⟩ rfl rfl hl.1 rfl (lv_room (Nat.le_of_ble_eq_true rfl)) d_Mo_save_42 ⟨Nat.le_of_ble_eq_true rfl, Nat.le_of_ble_eq_true rfl⟩) hI.2 (fun q _ h => ga_sub hAC hA0 hI.2 q h) (ga_sub hAC hA0 hI.2) (fun v t H1 locs1 ht hWt hpost _ _ hS => ?_) (fun x t H1 locs1 ht hWt hpost _ _ hS => (hpost.2 x rfl).elim)
  rcases hpost.1 _ rfl with ⟨hv, c23, hI1⟩
  cases hv
  have hI : sI (dC, dI) vcl cI cJ (gsM a th tr dp zi co sh lt ts mf) A s.heap H1 locs1 := ⟨by rw [← ht]; exact hI1, hS⟩
  clear hpost hI1 hS ht hWt
  revert hI; generalize H1 = H; generalize locs1 = locs; intro hI
  refine lv_aload_n hx hb d_Mo_save_45 rfl (lv_at hl 0 rfl) ?_
  refine sv_getr (C := "StoryMachineModel") (T := T_Mo) (N := 51) hx hb hts in_Mo hown hK hI 0 kM_0 rfl 6 (by decide) (hts _ mw_1069) rfl d_Mo_save_46 ?_
  refine lv_aload_n hx hb d_Mo_save_49 rfl (lv_at hl 0 rfl) ?_
  refine sv_getr (C := "StoryMachineModel") (T := T_Mo) (N := 51) hx hb hts in_Mo hown hK hI 0 kM_0 rfl 16 (by decide) (hts _ mw_1079) rfl d_Mo_save_50 ?_
  refine sn_bipush hx hb d_Mo_save_53 (by decide) (fun z24 hz24 => ?_)
  refine tz_call (A1 := ga (adM a) H.size) (tz_runS (As := [.ref (a 4), .ref (a 11), .int z24]) (rest := []) ⟨hx, hb, hml, hown, hts⟩ (c_Mo_copy_4_11 l hfl dC dI cI cJ a H.size th tr dp zi co sh lt ts mf z24 c23 (by omega) (by omega)) (tx_cb (n := 3) hts rfl rfl ⟨Nat.le_of_ble_eq_true rfl, Nat.le_of_ble_eq_true rfl⟩ (tx_code.of (hts _ mw_1428)) (hts _ mw_12) (by decide +kernel) (hts _ mw_1426)) (hts _ mw_1427) ⟨tz_blind, fun U hU hW => ⟨rfl, by rw [hU], by rw [hU]; exact hI.1, va_K.moved hW.alike hK, hst _ _ hI.2 U hU hW⟩⟩ rfl rfl hl.1 rfl (lv_room (Nat.le_of_ble_eq_true rfl)) d_Mo_save_55 ⟨Nat.le_of_ble_eq_true rfl, Nat.le_of_ble_eq_true rfl⟩) hI.2 (fun q _ h => ga_sub hAC hA0 hI.2 q h) (ga_sub hAC hA0 hI.2) (fun v t H1 locs1 ht hWt hpost _ _ hS => ?_) (fun x t H1 locs1 ht hWt hpost _ _ hS => (hpost.2 x rfl).elim)
  rcases hpost.1 _ rfl with ⟨hv, c25, hI1⟩
  cases hv
  have hI : sI (dC, dI) vcl cI cJ (gsM a th tr dp zi co sh lt ts mf) A s.heap H1 locs1 := ⟨by rw [← ht]; exact hI1, hS⟩
  clear hpost hI1 hS ht hWt
  revert hI; generalize H1 = H; generalize locs1 = locs; intro hI
  refine lv_aload_n hx hb d_Mo_save_58 rfl (lv_at hl 0 rfl) ?_
  refine sv_getr (C := "StoryMachineModel") (T := T_Mo) (N := 51) hx hb hts in_Mo hown hK hI 0 kM_0 rfl 7 (by decide) (hts _ mw_1070) rfl d_Mo_save_59 ?_
  refine lv_aload_n hx hb d_Mo_save_62 rfl (lv_at hl 0 rfl) ?_
  refine sv_getr (C := "StoryMachineModel") (T := T_Mo) (N := 51) hx hb hts in_Mo hown hK hI 0 kM_0 rfl 17 (by decide) (hts _ mw_1080) rfl d_Mo_save_63 ?_
  refine sn_bipush hx hb d_Mo_save_66 (by decide) (fun z26 hz26 => ?_)
  refine tz_call (A1 := ga (adM a) H.size) (tz_runS (As := [.ref (a 5), .ref (a 12), .int z26]) (rest := []) ⟨hx, hb, hml, hown, hts⟩ (c_Mo_copy_5_12 l hfl dC dI cI cJ a H.size th tr dp zi co sh lt ts mf z26 c25 (by omega) (by omega)) (tx_cb (n := 3) hts rfl rfl ⟨Nat.le_of_ble_eq_true rfl, Nat.le_of_ble_eq_true rfl⟩ (tx_code.of (hts _ mw_1428)) (hts _ mw_12) (by decide +kernel) (hts _ mw_1426)) (hts _ mw_1427) ⟨tz_blind, fun U hU hW => ⟨rfl, by rw [hU], by rw [hU]; exact hI.1, va_K.moved hW.alike hK, hst _ _ hI.2 U hU hW⟩⟩ rfl rfl hl.1 rfl (lv_room (Nat.le_of_ble_eq_true rfl)) d_Mo_save_68 ⟨Nat.le_of_ble_eq_true rfl, Nat.le_of_ble_eq_true rfl⟩) hI.2 (fun q _ h => ga_sub hAC hA0 hI.2 q h) (ga_sub hAC hA0 hI.2) (fun v t H1 locs1 ht hWt hpost _ _ hS => ?_) (fun x t H1 locs1 ht hWt hpost _ _ hS => (hpost.2 x rfl).elim)
  rcases hpost.1 _ rfl with ⟨hv, c27, hI1⟩
  cases hv
  have hI : sI (dC, dI) vcl cI cJ (gsM a th tr dp zi co sh lt ts mf) A s.heap H1 locs1 := ⟨by rw [← ht]; exact hI1, hS⟩
  clear hpost hI1 hS ht hWt
  revert hI; generalize H1 = H; generalize locs1 = locs; intro hI
  refine lv_aload_n hx hb d_Mo_save_71 rfl (lv_at hl 0 rfl) ?_
  refine sv_getr (C := "StoryMachineModel") (T := T_Mo) (N := 51) hx hb hts in_Mo hown hK hI 0 kM_0 rfl 8 (by decide) (hts _ mw_1071) rfl d_Mo_save_72 ?_
  refine lv_aload_n hx hb d_Mo_save_75 rfl (lv_at hl 0 rfl) ?_
  refine sv_getr (C := "StoryMachineModel") (T := T_Mo) (N := 51) hx hb hts in_Mo hown hK hI 0 kM_0 rfl 18 (by decide) (hts _ mw_1081) rfl d_Mo_save_76 ?_
  refine sn_bipush hx hb d_Mo_save_79 (by decide) (fun z28 hz28 => ?_)
  refine tz_call (A1 := ga (adM a) H.size) (tz_runS (As := [.ref (a 6), .ref (a 13), .int z28]) (rest := []) ⟨hx, hb, hml, hown, hts⟩ (c_Mo_copy_6_13 l hfl dC dI cI cJ a H.size th tr dp zi co sh lt ts mf z28 c27 (by omega) (by omega)) (tx_cb (n := 3) hts rfl rfl ⟨Nat.le_of_ble_eq_true rfl, Nat.le_of_ble_eq_true rfl⟩ (tx_code.of (hts _ mw_1428)) (hts _ mw_12) (by decide +kernel) (hts _ mw_1426)) (hts _ mw_1427) ⟨tz_blind, fun U hU hW => ⟨rfl, by rw [hU], by rw [hU]; exact hI.1, va_K.moved hW.alike hK, hst _ _ hI.2 U hU hW⟩⟩ rfl rfl hl.1 rfl (lv_room (Nat.le_of_ble_eq_true rfl)) d_Mo_save_81 ⟨Nat.le_of_ble_eq_true rfl, Nat.le_of_ble_eq_true rfl⟩) hI.2 (fun q _ h => ga_sub hAC hA0 hI.2 q h) (ga_sub hAC hA0 hI.2) (fun v t H1 locs1 ht hWt hpost _ _ hS => ?_) (fun x t H1 locs1 ht hWt hpost _ _ hS => (hpost.2 x rfl).elim)
  rcases hpost.1 _ rfl with ⟨hv, c29, hI1⟩
  cases hv
  have hI : sI (dC, dI) vcl cI cJ (gsM a th tr dp zi co sh lt ts mf) A s.heap H1 locs1 := ⟨by rw [← ht]; exact hI1, hS⟩
  clear hpost hI1 hS ht hWt
  revert hI; generalize H1 = H; generalize locs1 = locs; intro hI
  refine lv_aload_n hx hb d_Mo_save_84 rfl (lv_at hl 0 rfl) ?_
  refine sv_getr (C := "StoryMachineModel") (T := T_Mo) (N := 51) hx hb hts in_Mo hown hK hI 0 kM_0 rfl 9 (by decide) (hts _ mw_1072) rfl d_Mo_save_85 ?_
  refine lv_aload_n hx hb d_Mo_save_88 rfl (lv_at hl 0 rfl) ?_
  refine sv_getr (C := "StoryMachineModel") (T := T_Mo) (N := 51) hx hb hts in_Mo hown hK hI 0 kM_0 rfl 19 (by decide) (hts _ mw_1082) rfl d_Mo_save_89 ?_
  refine sn_sipush hx hb d_Mo_save_92 (by decide) (fun z30 hz30 => ?_)
  refine tz_call (A1 := ga (adM a) H.size) (tz_runS (As := [.ref (a 7), .ref (a 14), .int z30]) (rest := []) ⟨hx, hb, hml, hown, hts⟩ (c_Mo_copy_7_14 l hfl dC dI cI cJ a H.size th tr dp zi co sh lt ts mf z30 c29 (by omega) (by omega)) (tx_cb (n := 3) hts rfl rfl ⟨Nat.le_of_ble_eq_true rfl, Nat.le_of_ble_eq_true rfl⟩ (tx_code.of (hts _ mw_1428)) (hts _ mw_12) (by decide +kernel) (hts _ mw_1426)) (hts _ mw_1427) ⟨tz_blind, fun U hU hW => ⟨rfl, by rw [hU], by rw [hU]; exact hI.1, va_K.moved hW.alike hK, hst _ _ hI.2 U hU hW⟩⟩ rfl rfl hl.1 rfl (lv_room (Nat.le_of_ble_eq_true rfl)) d_Mo_save_95 ⟨Nat.le_of_ble_eq_true rfl, Nat.le_of_ble_eq_true rfl⟩) hI.2 (fun q _ h => ga_sub hAC hA0 hI.2 q h) (ga_sub hAC hA0 hI.2) (fun v t H1 locs1 ht hWt hpost _ _ hS => ?_) (fun x t H1 locs1 ht hWt hpost _ _ hS => (hpost.2 x rfl).elim)
  rcases hpost.1 _ rfl with ⟨hv, c31, hI1⟩
  cases hv
  have hI : sI (dC, dI) vcl cI cJ (gsM a th tr dp zi co sh lt ts mf) A s.heap H1 locs1 := ⟨by rw [← ht]; exact hI1, hS⟩
  clear hpost hI1 hS ht hWt
  revert hI; generalize H1 = H; generalize locs1 = locs; intro hI
  refine lv_aload_n hx hb d_Mo_save_98 rfl (lv_at hl 0 rfl) ?_
  refine lv_aload_n hx hb d_Mo_save_99 rfl (lv_at hl 0 rfl) ?_
  refine sv_gete (C := "StoryMachineModel") (T := T_Mo) (N := 51) hx hb hts in_Mo hown hK hI 0 kM_0 rfl 2 (by decide) (hts _ mw_1065) rfl d_Mo_save_100 (fun z32 hz32 => ?_)
  refine sv_put (C := "StoryMachineModel") (T := T_Mo) (N := 51) (ty := .int) hx hb hts in_Mo t_Mo tk_Mo nm_Mo hown hK (sh_in adM_map hAC) hI 0 kM_0 rfl 12 (by decide) (hts _ mw_1075) rfl (by decide +kernel) rfl rfl (Nat.le_of_ble_eq_true rfl) (by omega) (by omega) pM_0_12 d_Mo_save_103 (fun H locs hI => ?_)
  refine lv_aload_n hx hb d_Mo_save_106 rfl (lv_at hl 0 rfl) ?_
  refine lv_aload_n hx hb d_Mo_save_107 rfl (lv_at hl 0 rfl) ?_
  refine sv_gete (C := "StoryMachineModel") (T := T_Mo) (N := 51) hx hb hts in_Mo hown hK hI 0 kM_0 rfl 4 (by decide) (hts _ mw_1067) rfl d_Mo_save_108 (fun z33 hz33 => ?_)
  refine sv_put (C := "StoryMachineModel") (T := T_Mo) (N := 51) (ty := .int) hx hb hts in_Mo t_Mo tk_Mo nm_Mo hown hK (sh_in adM_map hAC) hI 0 kM_0 rfl 14 (by decide) (hts _ mw_1077) rfl (by decide +kernel) rfl rfl (Nat.le_of_ble_eq_true rfl) (by omega) (by omega) pM_0_14 d_Mo_save_111 (fun H locs hI => ?_)
  refine lv_aload_n hx hb d_Mo_save_114 rfl (lv_at hl 0 rfl) ?_
  refine lv_aload_n hx hb d_Mo_save_115 rfl (lv_at hl 0 rfl) ?_
  refine sv_get (C := "StoryMachineModel") (T := T_Mo) (N := 51) hx hb hts in_Mo hown hK hI 0 kM_0 rfl 43 (by decide) (hts _ mw_1106) rfl d_Mo_save_116 (fun z34 hz34a hz34b => ?_)
  refine sv_put (C := "StoryMachineModel") (T := T_Mo) (N := 51) (ty := .int) hx hb hts in_Mo t_Mo tk_Mo nm_Mo hown hK (sh_in adM_map hAC) hI 0 kM_0 rfl 20 (by decide) (hts _ mw_1083) rfl (by decide +kernel) rfl rfl (Nat.le_of_ble_eq_true rfl) (by omega) (by omega) pM_0_20 d_Mo_save_119 (fun H locs hI => ?_)
  refine lv_aload_n hx hb d_Mo_save_122 rfl (lv_at hl 0 rfl) ?_
  refine lv_aload_n hx hb d_Mo_save_123 rfl (lv_at hl 0 rfl) ?_
  refine sv_get (C := "StoryMachineModel") (T := T_Mo) (N := 51) hx hb hts in_Mo hown hK hI 0 kM_0 rfl 41 (by decide) (hts _ mw_1104) rfl d_Mo_save_124 (fun z35 hz35a hz35b => ?_)
  refine sv_put (C := "StoryMachineModel") (T := T_Mo) (N := 51) (ty := .boolean) hx hb hts in_Mo t_Mo tk_Mo nm_Mo hown hK (sh_in adM_map hAC) hI 0 kM_0 rfl 21 (by decide) (hts _ mw_1084) rfl (by decide +kernel) (sn_bool (by omega) (by omega)).1 (sn_bool (by omega) (by omega)).2 (Nat.le_of_ble_eq_true rfl) (by omega) (by omega) pM_0_21 d_Mo_save_127 (fun H locs hI => ?_)
  refine lv_aload_n hx hb d_Mo_save_130 rfl (lv_at hl 0 rfl) ?_
  refine lv_aload_n hx hb d_Mo_save_131 rfl (lv_at hl 0 rfl) ?_
  refine sv_get (C := "StoryMachineModel") (T := T_Mo) (N := 51) hx hb hts in_Mo hown hK hI 0 kM_0 rfl 42 (by decide) (hts _ mw_1105) rfl d_Mo_save_132 (fun z36 hz36a hz36b => ?_)
  refine sv_put (C := "StoryMachineModel") (T := T_Mo) (N := 51) (ty := .int) hx hb hts in_Mo t_Mo tk_Mo nm_Mo hown hK (sh_in adM_map hAC) hI 0 kM_0 rfl 22 (by decide) (hts _ mw_1085) rfl (by decide +kernel) rfl rfl (Nat.le_of_ble_eq_true rfl) (by omega) (by omega) pM_0_22 d_Mo_save_135 (fun H locs hI => ?_)
  refine lv_aload_n hx hb d_Mo_save_138 rfl (lv_at hl 0 rfl) ?_
  refine sn_iconst hx hb d_Mo_save_139 (by decide) (fun z37 hz37 => ?_)
  refine tz_call (A1 := ga (adM a) H.size) (tz_runV (C := "StoryMachineModel") (As := [.int z37]) (rest := []) ⟨hx, hb, hml, hown, hts⟩ (c_Mo_branch l hfl dC dI cI cJ a H.size th tr dp zi co sh lt ts mf z37 c31 (by omega) (by omega)) (tx_cb (n := 1) hts rfl rfl ⟨Nat.le_of_ble_eq_true rfl, Nat.le_of_ble_eq_true rfl⟩ (tx_code.of (hts _ mw_1288)) (hts _ mw_12) (by decide +kernel) (hts _ mw_1285)) (hts _ mw_1287) (hts _ ms_Mo_branch) ⟨tz_blind, sv_recv (q0 := 0) hts in_Mo hK hI kM_0 rfl, fun U hU hW => ⟨rfl, by rw [hU], by rw [hU]; exact hI.1, va_K.moved hW.alike hK, hst _ _ hI.2 U hU hW⟩⟩ rfl rfl hl.1 rfl (lv_room (Nat.le_of_ble_eq_true rfl)) d_Mo_save_140 ⟨Nat.le_of_ble_eq_true rfl, Nat.le_of_ble_eq_true rfl⟩) hI.2 (fun q _ h => ga_sub hAC hA0 hI.2 q h) (ga_sub hAC hA0 hI.2) (fun v t H1 locs1 ht hWt hpost _ _ hS => ?_) (fun x t H1 locs1 ht hWt hpost _ _ hS => (hpost.2 x rfl).elim)
  rcases hpost.1 _ rfl with ⟨t_tr38, t_dp39, t_zi40, hv, c41, c41_0, hI1⟩ | ⟨t_dp42, t_zi43, f_mf44, hv, c45, c45_0, hI1⟩
  · cases hv
    have hI : sI (dC, dI) vcl cI cJ (gsM a th t_tr38 t_dp39 t_zi40 co sh lt ts mf) A s.heap H1 locs1 := ⟨by rw [← ht]; exact hI1, hS⟩
    obtain ⟨-, ⟨o46, o47⟩, ⟨o48, o49⟩, ⟨o50, o51⟩, -, -, -, -, -⟩ := id c41
    clear hpost hI1 hS ht hWt
    revert hI; generalize H1 = H; generalize locs1 = locs; intro hI
    subst hZ
    exact tz_ret (W.vret hx hb hr (fun t ht hW => ⟨⟨fun v9 hv9 => by cases hv9; exact (Or.inl ⟨t_tr38, t_dp39, t_zi40, rfl, c41, by omega, by rw [ht]; exact hI.1⟩), fun x9 hx9 => (by cases hx9)⟩, hI.2.F ht⟩) hI.2.2.2 d_Mo_save_143)
  · cases hv
    have hI : sI (dC, dI) vcl cI cJ (gsM a th tr t_dp42 t_zi43 co sh lt ts f_mf44) A s.heap H1 locs1 := ⟨by rw [← ht]; exact hI1, hS⟩
    obtain ⟨-, -, ⟨o52, o53⟩, ⟨o54, o55⟩, -, -, -, -, -⟩ := id c45
    clear hpost hI1 hS ht hWt
    revert hI; generalize H1 = H; generalize locs1 = locs; intro hI
    subst hZ
    exact tz_ret (W.vret hx hb hr (fun t ht hW => ⟨⟨fun v9 hv9 => by cases hv9; exact (Or.inr (⟨t_dp42, t_zi43, f_mf44, rfl, c45, by omega, by rw [ht]; exact hI.1⟩)), fun x9 hx9 => (by cases hx9)⟩, hI.2.F ht⟩) hI.2.2.2 d_Mo_save_143)
abbrev q_Mo_sign (dC : Nat → ClassId) (dI : Nat → Nat → Nat) (cI cJ : ClassId) (a : Nat → Nat) (th tr dp zi co sh lt ts : Int) (mf : Nat → Int32) (x0 : Int32) : Outcome → State → Prop := fun o t => (∀ v, o = .returned v → ((∃ (z : Int32), v = some (.int z) ∧ okM th tr dp zi co sh lt ts mf ∧ ((-2147483600) ≤ z.toInt) ∧ (z.toInt ≤ 95) ∧ sh_I (dC, dI) vcl cI cJ (gsM a th tr dp zi co sh lt ts mf) t.heap))) ∧ (∀ x, o = .threw x → (False))
def rm_Mo_sign : Room := { frames := 0, cells := 0, slots := 0, locals := 0 }
set_option maxHeartbeats 4000000 in
set_option maxRecDepth 100000 in
theorem c_Mo_sign (l : Launch) (hfl : l.flags = pinnedFlags ++ [noTraceFlag]) (dC : Nat → ClassId) (dI : Nat → Nat → Nat) (cI cJ : ClassId) (a : Nat → Nat) (sz : Nat) (th tr dp zi co sh lt ts : Int) (mf : Nat → Int32) (x0 : Int32) (hok : okM th tr dp zi co sh lt ts mf) : tz_Met l ⟨"StoryMachineModel", "sign", "(I)I"⟩ tw_tbl rm_Mo_sign (tzP (dC, dI) vcl cI cJ (gsM a th tr dp zi co sh lt ts mf) a (adM a) [.int x0] sz) (tq_Q (q_Mo_sign dC dI cI cJ a th tr dp zi co sh lt ts mf x0) (ga (adM a) sz)) 0 0 0 0 (ga (adM a) sz) := by
  refine tz_ofW (cc := prog_13_method_18_code) (maxL := 1) (ret := (some .int)) (by decide) (tx_isM mw_1413) ?_
  intro p e s m args below meth c s₁ B hml hv
  obtain ⟨rfl, hsz, hI0, hK, hst0⟩ := hv
  have hx := B.exec
  have hb := B.bytes
  have hr := B.returns
  have hts := atoms_spec (ws := tw_tbl) B.pre
  have hown : s.vm.findClass "StoryMachineModel" = some m.cls := findClass_of_methodNamed B.named
  have hlocks := B.notSynchronized
  subst hsz
  have hst := fun (H : Heap) (locs : List Loc) (hS : va_S (ga (adM a) s.heap.size) s.heap H locs) (U : State) (hU : U.heap = H) (hW : s.WarmedH U.vm) => zS_all adM_map hI0 hst0 hS hU hW
  have hAC : ∀ q ∈ adM a, ga (adM a) s.heap.size q := fun q h => Or.inl h
  have hA0 : ∀ q, s.heap.size ≤ q → ga (adM a) s.heap.size q := fun q h => Or.inr h
  have hI : sI (dC, dI) vcl cI cJ (gsM a th tr dp zi co sh lt ts mf) (ga (adM a) s.heap.size) s.heap s.heap [] := ⟨hI0, va_S.rf⟩
  clear hI0 hst0
  have hl := lv_entry ([.int x0]) (n := 1) (Nat.le_of_ble_eq_true rfl)
  rw [lg_entry_eq]
  generalize (lg_sl ([.int x0]) ++ List.replicate (1 - (lg_sl ([.int x0])).length) Slot.unset).toArray = ls at hl ⊢
  have hl : lv_has ls 1 [(0, .int x0)] := hl
  generalize hZ : tz_MQ below (tq_Q (q_Mo_sign dC dI cI cJ a th tr dp zi co sh lt ts mf x0) (ga (adM a) s.heap.size)) ([.int x0] : List Value).toArray s 0 0 0 0 (ga (adM a) s.heap.size) = Z
  obtain ⟨A, hAe⟩ : ∃ A, A = ga (adM a) s.heap.size := ⟨_, rfl⟩
  rw [← hAe] at hst hAC hA0 hI hZ
  refine sv_start hI (fun H locs hI => ?_)
  obtain ⟨⟨o1, o2⟩, ⟨o3, o4⟩, ⟨o5, o6⟩, ⟨o7, o8⟩, ⟨o9, o10⟩, ⟨o11, o12⟩, ⟨o13, o14⟩, ⟨o15, o16⟩, -⟩ := id hok
  have gx0 := sn_rng x0
  refine lv_iload_n hx hb d_Mo_sign_0 rfl (lv_at hl 0 rfl) ?_
  refine sn_bipush hx hb d_Mo_sign_1 (by decide) (fun z17 hz17 => ?_)
  refine sn_icmp_ge (tgt := 11) hx hb d_Mo_sign_3 (by decide) (fun b18 => ?_) (fun b18 => ?_)
  · refine lv_iload_n hx hb d_Mo_sign_11 rfl (lv_at hl 0 rfl) ?_
    refine sn_bipush hx hb d_Mo_sign_12 (by decide) (fun z19 hz19 => ?_)
    refine sn_icmp_ge (tgt := 86) hx hb d_Mo_sign_14 (by decide) (fun b20 => ?_) (fun b20 => ?_)
    · refine lv_iload_n hx hb d_Mo_sign_86 rfl (lv_at hl 0 rfl) ?_
      refine sn_bipush hx hb d_Mo_sign_87 (by decide) (fun z21 hz21 => ?_)
      refine sn_icmp_ne (tgt := 97) hx hb d_Mo_sign_89 (by decide) (fun b22 => ?_) (fun b22 => ?_)
      · refine lv_iload_n hx hb d_Mo_sign_97 rfl (lv_at hl 0 rfl) ?_
        refine sn_bipush hx hb d_Mo_sign_98 (by decide) (fun z23 hz23 => ?_)
        refine sn_icmp_ne (tgt := 108) hx hb d_Mo_sign_100 (by decide) (fun b24 => ?_) (fun b24 => ?_)
        · refine lv_iload_n hx hb d_Mo_sign_108 rfl (lv_at hl 0 rfl) ?_
          refine sn_bipush hx hb d_Mo_sign_109 (by decide) (fun z25 hz25 => ?_)
          refine sn_icmp_ne (tgt := 119) hx hb d_Mo_sign_111 (by decide) (fun b26 => ?_) (fun b26 => ?_)
          · refine lv_iload_n hx hb d_Mo_sign_119 rfl (lv_at hl 0 rfl) ?_
            refine sn_bipush hx hb d_Mo_sign_120 (by decide) (fun z27 hz27 => ?_)
            refine sn_icmp_ne (tgt := 130) hx hb d_Mo_sign_122 (by decide) (fun b28 => ?_) (fun b28 => ?_)
            · refine lv_iload_n hx hb d_Mo_sign_130 rfl (lv_at hl 0 rfl) ?_
              refine sn_bipush hx hb d_Mo_sign_131 (by decide) (fun z29 hz29 => ?_)
              refine sn_icmp_ne (tgt := 141) hx hb d_Mo_sign_133 (by decide) (fun b30 => ?_) (fun b30 => ?_)
              · refine lv_iload_n hx hb d_Mo_sign_141 rfl (lv_at hl 0 rfl) ?_
                refine sn_bipush hx hb d_Mo_sign_142 (by decide) (fun z31 hz31 => ?_)
                refine sn_icmp_ne (tgt := 152) hx hb d_Mo_sign_144 (by decide) (fun b32 => ?_) (fun b32 => ?_)
                · refine sn_bipush hx hb d_Mo_sign_152 (by decide) (fun z33 hz33 => ?_)
                  subst hZ
                  exact tz_ret (W.iret (v := z33) hx hb hr (fun t ht hW => ⟨⟨fun v9 hv9 => by cases hv9; exact (⟨z33, rfl, hok, by omega, by omega, by rw [ht]; exact hI.1⟩), fun x9 hx9 => (by cases hx9)⟩, hI.2.F ht⟩) hI.2.2.2 d_Mo_sign_154)
                · refine sn_bipush hx hb d_Mo_sign_147 (by decide) (fun z34 hz34 => ?_)
                  refine lv_goto (tgt := 154) hx hb d_Mo_sign_149 (by decide) ?_
                  subst hZ
                  exact tz_ret (W.iret (v := z34) hx hb hr (fun t ht hW => ⟨⟨fun v9 hv9 => by cases hv9; exact (⟨z34, rfl, hok, by omega, by omega, by rw [ht]; exact hI.1⟩), fun x9 hx9 => (by cases hx9)⟩, hI.2.F ht⟩) hI.2.2.2 d_Mo_sign_154)
              · refine sn_bipush hx hb d_Mo_sign_136 (by decide) (fun z35 hz35 => ?_)
                refine lv_goto (tgt := 154) hx hb d_Mo_sign_138 (by decide) ?_
                subst hZ
                exact tz_ret (W.iret (v := z35) hx hb hr (fun t ht hW => ⟨⟨fun v9 hv9 => by cases hv9; exact (⟨z35, rfl, hok, by omega, by omega, by rw [ht]; exact hI.1⟩), fun x9 hx9 => (by cases hx9)⟩, hI.2.F ht⟩) hI.2.2.2 d_Mo_sign_154)
            · refine sn_bipush hx hb d_Mo_sign_125 (by decide) (fun z36 hz36 => ?_)
              refine lv_goto (tgt := 154) hx hb d_Mo_sign_127 (by decide) ?_
              subst hZ
              exact tz_ret (W.iret (v := z36) hx hb hr (fun t ht hW => ⟨⟨fun v9 hv9 => by cases hv9; exact (⟨z36, rfl, hok, by omega, by omega, by rw [ht]; exact hI.1⟩), fun x9 hx9 => (by cases hx9)⟩, hI.2.F ht⟩) hI.2.2.2 d_Mo_sign_154)
          · refine sn_bipush hx hb d_Mo_sign_114 (by decide) (fun z37 hz37 => ?_)
            refine lv_goto (tgt := 154) hx hb d_Mo_sign_116 (by decide) ?_
            subst hZ
            exact tz_ret (W.iret (v := z37) hx hb hr (fun t ht hW => ⟨⟨fun v9 hv9 => by cases hv9; exact (⟨z37, rfl, hok, by omega, by omega, by rw [ht]; exact hI.1⟩), fun x9 hx9 => (by cases hx9)⟩, hI.2.F ht⟩) hI.2.2.2 d_Mo_sign_154)
        · refine sn_bipush hx hb d_Mo_sign_103 (by decide) (fun z38 hz38 => ?_)
          refine lv_goto (tgt := 154) hx hb d_Mo_sign_105 (by decide) ?_
          subst hZ
          exact tz_ret (W.iret (v := z38) hx hb hr (fun t ht hW => ⟨⟨fun v9 hv9 => by cases hv9; exact (⟨z38, rfl, hok, by omega, by omega, by rw [ht]; exact hI.1⟩), fun x9 hx9 => (by cases hx9)⟩, hI.2.F ht⟩) hI.2.2.2 d_Mo_sign_154)
      · refine sn_bipush hx hb d_Mo_sign_92 (by decide) (fun z39 hz39 => ?_)
        refine lv_goto (tgt := 154) hx hb d_Mo_sign_94 (by decide) ?_
        subst hZ
        exact tz_ret (W.iret (v := z39) hx hb hr (fun t ht hW => ⟨⟨fun v9 hv9 => by cases hv9; exact (⟨z39, rfl, hok, by omega, by omega, by rw [ht]; exact hI.1⟩), fun x9 hx9 => (by cases hx9)⟩, hI.2.F ht⟩) hI.2.2.2 d_Mo_sign_154)
    · refine lv_iload_n hx hb d_Mo_sign_17 rfl (lv_at hl 0 rfl) ?_
      refine sn_bipush hx hb d_Mo_sign_18 (by decide) (fun z40 hz40 => ?_)
      refine sn_icmp_ne (tgt := 28) hx hb d_Mo_sign_20 (by decide) (fun b41 => ?_) (fun b41 => ?_)
      · refine lv_iload_n hx hb d_Mo_sign_28 rfl (lv_at hl 0 rfl) ?_
        refine sn_bipush hx hb d_Mo_sign_29 (by decide) (fun z42 hz42 => ?_)
        refine sn_icmp_ne (tgt := 39) hx hb d_Mo_sign_31 (by decide) (fun b43 => ?_) (fun b43 => ?_)
        · refine lv_iload_n hx hb d_Mo_sign_39 rfl (lv_at hl 0 rfl) ?_
          refine sn_bipush hx hb d_Mo_sign_40 (by decide) (fun z44 hz44 => ?_)
          refine sn_icmp_ne (tgt := 50) hx hb d_Mo_sign_42 (by decide) (fun b45 => ?_) (fun b45 => ?_)
          · refine lv_iload_n hx hb d_Mo_sign_50 rfl (lv_at hl 0 rfl) ?_
            refine sn_bipush hx hb d_Mo_sign_51 (by decide) (fun z46 hz46 => ?_)
            refine sn_icmp_ne (tgt := 61) hx hb d_Mo_sign_53 (by decide) (fun b47 => ?_) (fun b47 => ?_)
            · refine lv_iload_n hx hb d_Mo_sign_61 rfl (lv_at hl 0 rfl) ?_
              refine sn_bipush hx hb d_Mo_sign_62 (by decide) (fun z48 hz48 => ?_)
              refine sn_icmp_ne (tgt := 72) hx hb d_Mo_sign_64 (by decide) (fun b49 => ?_) (fun b49 => ?_)
              · refine lv_iload_n hx hb d_Mo_sign_72 rfl (lv_at hl 0 rfl) ?_
                refine sn_bipush hx hb d_Mo_sign_73 (by decide) (fun z50 hz50 => ?_)
                refine sn_icmp_ne (tgt := 83) hx hb d_Mo_sign_75 (by decide) (fun b51 => ?_) (fun b51 => ?_)
                · refine sn_bipush hx hb d_Mo_sign_83 (by decide) (fun z52 hz52 => ?_)
                  subst hZ
                  exact tz_ret (W.iret (v := z52) hx hb hr (fun t ht hW => ⟨⟨fun v9 hv9 => by cases hv9; exact (⟨z52, rfl, hok, by omega, by omega, by rw [ht]; exact hI.1⟩), fun x9 hx9 => (by cases hx9)⟩, hI.2.F ht⟩) hI.2.2.2 d_Mo_sign_85)
                · refine sn_bipush hx hb d_Mo_sign_78 (by decide) (fun z53 hz53 => ?_)
                  refine lv_goto (tgt := 85) hx hb d_Mo_sign_80 (by decide) ?_
                  subst hZ
                  exact tz_ret (W.iret (v := z53) hx hb hr (fun t ht hW => ⟨⟨fun v9 hv9 => by cases hv9; exact (⟨z53, rfl, hok, by omega, by omega, by rw [ht]; exact hI.1⟩), fun x9 hx9 => (by cases hx9)⟩, hI.2.F ht⟩) hI.2.2.2 d_Mo_sign_85)
              · refine sn_bipush hx hb d_Mo_sign_67 (by decide) (fun z54 hz54 => ?_)
                refine lv_goto (tgt := 85) hx hb d_Mo_sign_69 (by decide) ?_
                subst hZ
                exact tz_ret (W.iret (v := z54) hx hb hr (fun t ht hW => ⟨⟨fun v9 hv9 => by cases hv9; exact (⟨z54, rfl, hok, by omega, by omega, by rw [ht]; exact hI.1⟩), fun x9 hx9 => (by cases hx9)⟩, hI.2.F ht⟩) hI.2.2.2 d_Mo_sign_85)
            · refine sn_bipush hx hb d_Mo_sign_56 (by decide) (fun z55 hz55 => ?_)
              refine lv_goto (tgt := 85) hx hb d_Mo_sign_58 (by decide) ?_
              subst hZ
              exact tz_ret (W.iret (v := z55) hx hb hr (fun t ht hW => ⟨⟨fun v9 hv9 => by cases hv9; exact (⟨z55, rfl, hok, by omega, by omega, by rw [ht]; exact hI.1⟩), fun x9 hx9 => (by cases hx9)⟩, hI.2.F ht⟩) hI.2.2.2 d_Mo_sign_85)
          · refine sn_bipush hx hb d_Mo_sign_45 (by decide) (fun z56 hz56 => ?_)
            refine lv_goto (tgt := 85) hx hb d_Mo_sign_47 (by decide) ?_
            subst hZ
            exact tz_ret (W.iret (v := z56) hx hb hr (fun t ht hW => ⟨⟨fun v9 hv9 => by cases hv9; exact (⟨z56, rfl, hok, by omega, by omega, by rw [ht]; exact hI.1⟩), fun x9 hx9 => (by cases hx9)⟩, hI.2.F ht⟩) hI.2.2.2 d_Mo_sign_85)
        · refine sn_bipush hx hb d_Mo_sign_34 (by decide) (fun z57 hz57 => ?_)
          refine lv_goto (tgt := 85) hx hb d_Mo_sign_36 (by decide) ?_
          subst hZ
          exact tz_ret (W.iret (v := z57) hx hb hr (fun t ht hW => ⟨⟨fun v9 hv9 => by cases hv9; exact (⟨z57, rfl, hok, by omega, by omega, by rw [ht]; exact hI.1⟩), fun x9 hx9 => (by cases hx9)⟩, hI.2.F ht⟩) hI.2.2.2 d_Mo_sign_85)
      · refine sn_bipush hx hb d_Mo_sign_23 (by decide) (fun z58 hz58 => ?_)
        refine lv_goto (tgt := 85) hx hb d_Mo_sign_25 (by decide) ?_
        subst hZ
        exact tz_ret (W.iret (v := z58) hx hb hr (fun t ht hW => ⟨⟨fun v9 hv9 => by cases hv9; exact (⟨z58, rfl, hok, by omega, by omega, by rw [ht]; exact hI.1⟩), fun x9 hx9 => (by cases hx9)⟩, hI.2.F ht⟩) hI.2.2.2 d_Mo_sign_85)
  · refine sn_bipush hx hb d_Mo_sign_6 (by decide) (fun z59 hz59 => ?_)
    refine lv_iload_n hx hb d_Mo_sign_8 rfl (lv_at hl 0 rfl) ?_
    refine sn_iadd hx hb d_Mo_sign_9 (by omega) (by omega) (fun z60 hz60 => ?_)
    subst hZ
    exact tz_ret (W.iret (v := z60) hx hb hr (fun t ht hW => ⟨⟨fun v9 hv9 => by cases hv9; exact (⟨z60, rfl, hok, by omega, by omega, by rw [ht]; exact hI.1⟩), fun x9 hx9 => (by cases hx9)⟩, hI.2.F ht⟩) hI.2.2.2 d_Mo_sign_10)
