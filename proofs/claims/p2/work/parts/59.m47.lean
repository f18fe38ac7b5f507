abbrev q_Mo_copy_8_1 (dC : Nat → ClassId) (dI : Nat → Nat → Nat) (cI cJ : ClassId) (a : Nat → Nat) (th tr dp zi co sh lt ts : Int) (mf : Nat → Int32) (x2 : Int32) : Outcome → State → Prop := fun o t => (∀ v, o = .returned v → ((∃ (mf_ : Nat → Int32), v = none ∧ okM th tr dp zi co sh lt ts mf_ ∧ sh_I (dC, dI) vcl cI cJ (gsM a th tr dp zi co sh lt ts mf_) t.heap))) ∧ (∀ x, o = .threw x → (False))
def rm_Mo_copy_8_1 : Room := { frames := 0, cells := 0, slots := 0, locals := 0 }
set_option maxHeartbeats 4000000 in
set_option maxRecDepth 100000 in
theorem c_Mo_copy_8_1 (l : Launch) (hfl : l.flags = pinnedFlags ++ [noTraceFlag]) (dC : Nat → ClassId) (dI : Nat → Nat → Nat) (cI cJ : ClassId) (a : Nat → Nat) (sz : Nat) (th tr dp zi co sh lt ts : Int) (mf : Nat → Int32) (x2 : Int32) (hok : okM th tr dp zi co sh lt ts mf) (hp0 : 512 ≤ x2.toInt) (hp1 : x2.toInt ≤ 512) : tz_Met l ⟨"StoryMachineModel", "copy", "([I[II)V"⟩ tw_tbl rm_Mo_copy_8_1 (tzP (dC, dI) vcl cI cJ (gsM a th tr dp zi co sh lt ts mf) a (adM a) [.ref (a 8), .ref (a 1), .int x2] sz) (tq_Q (q_Mo_copy_8_1 dC dI cI cJ a th tr dp zi co sh lt ts mf x2) (ga (adM a) sz)) 0 0 0 0 (ga (adM a) sz) := by
  refine tz_ofW (cc := prog_13_method_56_code) (maxL := 4) (ret := none) (by decide) (tx_isM mw_1428) ?_
  intro p e s m args below meth c s₁ B hml hv
  obtain ⟨rfl, hsz, hI0, hK, hst0⟩ := hv
  have hx := B.exec
  have hb := B.bytes
  have hr := B.returns
  have hts := atoms_spec (ws := tw_tbl) B.pre
  have hown : s.vm.findClass "StoryMachineModel" = some m.cls := findClass_of_methodNamed B.named
  have hlocks := B.notSynchronized
  subst hsz
  have hst := fun (H : Heap) (locs : List Loc) (hS : va_S (ga (adM a) s.heap.size) s.heap H locs) (U : State) (hU : U.heap = H) (hW : s.WarmedH U.vm) => zS_all adM_map hI0 hst0 hS hU hW
  have hAC : ∀ q ∈ adM a, ga (adM a) s.heap.size q := fun q h => Or.inl h
  have hA0 : ∀ q, s.heap.size ≤ q → ga (adM a) s.heap.size q := fun q h => Or.inr h
  have hI : sI (dC, dI) vcl cI cJ (gsM a th tr dp zi co sh lt ts mf) (ga (adM a) s.heap.size) s.heap s.heap [] := ⟨hI0, va_S.rf⟩
  clear hI0 hst0
  have hl := lv_entry ([.ref (a 8), .ref (a 1), .int x2]) (n := 4) (Nat.le_of_ble_eq_true rfl)
  rw [lg_entry_eq]
  generalize (lg_sl ([.ref (a 8), .ref (a 1), .int x2]) ++ List.replicate (4 - (lg_sl ([.ref (a 8), .ref (a 1), .int x2])).length) Slot.unset).toArray = ls at hl ⊢
  have hl : lv_has ls 4 [(0, .ref (a 8)), (1, .ref (a 1)), (2, .int x2)] := hl
  generalize hZ : tz_MQ below (tq_Q (q_Mo_copy_8_1 dC dI cI cJ a th tr dp zi co sh lt ts mf x2) (ga (adM a) s.heap.size)) ([.ref (a 8), .ref (a 1), .int x2] : List Value).toArray s 0 0 0 0 (ga (adM a) s.heap.size) = Z
  obtain ⟨A, hAe⟩ : ∃ A, A = ga (adM a) s.heap.size := ⟨_, rfl⟩
  rw [← hAe] at hst hAC hA0 hI hZ
  refine sv_start hI (fun H locs hI => ?_)
  obtain ⟨⟨o1, o2⟩, ⟨o3, o4⟩, ⟨o5, o6⟩, ⟨o7, o8⟩, ⟨o9, o10⟩, ⟨o11, o12⟩, ⟨o13, o14⟩, ⟨o15, o16⟩, -⟩ := id hok
  have gx2 := sn_rng x2
  have j2 : ∀ (n : Nat) (H : Heap) (locs : List Loc) (ls : Array Slot) (v2_3 : Int32) (t2_mf : Nat → Int32), sI (dC, dI) vcl cI cJ (gsM a th tr dp zi co sh lt ts t2_mf) A s.heap H locs → okM th tr dp zi co sh lt ts t2_mf → 0 ≤ v2_3.toInt → v2_3.toInt ≤ 512 → lv_has ls 4 [(0, .ref (a 8)), (1, .ref (a 1)), (2, .int x2), (3, .int v2_3)] → 512 - v2_3.toInt < (n : Int) → W p l e (headSpec tw_tbl rm_Mo_copy_8_1).room s m ([.ref (a 8), .ref (a 1), .int x2] : List Value).toArray below meth c H locs 0 0 Z (F0 m 2 ls []) := by
    intro n
    induction n with
    | zero => intro H locs ls v2_3 t2_mf hI hok g2_0 g2_1 hl hme; exfalso; obtain ⟨⟨o17, o18⟩, ⟨o19, o20⟩, ⟨o21, o22⟩, ⟨o23, o24⟩, ⟨o25, o26⟩, ⟨o27, o28⟩, ⟨o29, o30⟩, ⟨o31, o32⟩, -⟩ := id hok; omega
    | succ n ih =>
      intro H locs ls v2_3 t2_mf hI hok g2_0 g2_1 hl hme
      obtain ⟨⟨o33, o34⟩, ⟨o35, o36⟩, ⟨o37, o38⟩, ⟨o39, o40⟩, ⟨o41, o42⟩, ⟨o43, o44⟩, ⟨o45, o46⟩, ⟨o47, o48⟩, -⟩ := id hok
      refine lv_iload_n hx hb d_Mo_copy_2 rfl (lv_at hl 3 rfl) ?_
      refine lv_iload_n hx hb d_Mo_copy_3 rfl (lv_at hl 2 rfl) ?_
      refine sn_icmp_ge (tgt := 19) hx hb d_Mo_copy_4 (by decide) (fun b49 => ?_) (fun b49 => ?_)
      · subst hZ
        exact tz_ret (W.vret hx hb hr (fun t ht hW => ⟨⟨fun v9 hv9 => by cases hv9; exact (⟨t2_mf, rfl, hok, by rw [ht]; exact hI.1⟩), fun x9 hx9 => (by cases hx9)⟩, hI.2.F ht⟩) hI.2.2.2 d_Mo_copy_19)
      · refine lv_aload_n hx hb d_Mo_copy_7 rfl (lv_at hl 1 rfl) ?_
        refine lv_iload_n hx hb d_Mo_copy_8 rfl (lv_at hl 3 rfl) ?_
        refine lv_aload_n hx hb d_Mo_copy_9 rfl (lv_at hl 0 rfl) ?_
        refine lv_iload_n hx hb d_Mo_copy_10 rfl (lv_at hl 3 rfl) ?_
        refine sv_ialdr hx hb hK hI 8 kM_8 (by omega) (by omega) d_Mo_copy_11 (fun z50 hz50a hz50b => ?_)
        refine sv_iast hx hb hK (sh_in adM_map hAC) hI 1 kM_1 (P' := fun g => g = upd t2_mf (v2_3.toNatClampNeg) z50) (by omega) (by omega) (fun g hg => by rw [hg]) pM_1 d_Mo_copy_12 (fun H locs hI => ?_)
        obtain ⟨f51, hf51⟩ : ∃ z : Nat → Int32, z = upd t2_mf (v2_3.toNatClampNeg) z50 := ⟨_, rfl⟩
        rw [← hf51] at hI
        have rf51 : rg 0 255 f51 := by rw [hf51]; exact rg_upd hok.2.2.2.2.2.2.2.2 (by omega) (by omega)
        refine sn_iinc (k := 3) hx hb d_Mo_copy_13 hl rfl (by decide) (by decide) (by omega) (by omega) (fun ls z52 hz52 hl => ?_)
        have hl : lv_has ls 4 [(3, .int z52), (0, .ref (a 8)), (1, .ref (a 1)), (2, .int x2)] := hl
        refine lv_goto (tgt := 2) hx hb d_Mo_copy_16 (by decide) ?_
        have ho53 : okM th tr dp zi co sh lt ts f51 := ⟨hok.1, hok.2.1, hok.2.2.1, hok.2.2.2.1, hok.2.2.2.2.1, hok.2.2.2.2.2.1, hok.2.2.2.2.2.2.1, hok.2.2.2.2.2.2.2.1, rf51⟩
        exact ih _ _ _ z52 f51 hI ho53 (by omega) (by omega) (lv_sub hl [1, 2, 3, 0] rfl) (by omega)
  refine sn_iconst hx hb d_Mo_copy_0 (by decide) (fun z54 hz54 => ?_)
  refine lv_istore_n (lv' := [(3, .int z54), (0, .ref (a 8)), (1, .ref (a 1)), (2, .int x2)]) hx hb d_Mo_copy_1 rfl hl (by decide) rfl (fun ls hl => ?_)
  exact j2 513 _ _ _ z54 mf hI hok (by omega) (by omega) (lv_sub hl [1, 2, 3, 0] rfl) (by omega)
abbrev q_Mo_copy_9_2 (dC : Nat → ClassId) (dI : Nat → Nat → Nat) (cI cJ : ClassId) (a : Nat → Nat) (th tr dp zi co sh lt ts : Int) (mf : Nat → Int32) (x2 : Int32) : Outcome → State → Prop := fun o t => (∀ v, o = .returned v → ((v = none ∧ okM th tr dp zi co sh lt ts mf ∧ sh_I (dC, dI) vcl cI cJ (gsM a th tr dp zi co sh lt ts mf) t.heap))) ∧ (∀ x, o = .threw x → (False))
def rm_Mo_copy_9_2 : Room := { frames := 0, cells := 0, slots := 0, locals := 0 }
set_option maxHeartbeats 4000000 in
set_option maxRecDepth 100000 in
theorem c_Mo_copy_9_2 (l : Launch) (hfl : l.flags = pinnedFlags ++ [noTraceFlag]) (dC : Nat → ClassId) (dI : Nat → Nat → Nat) (cI cJ : ClassId) (a : Nat → Nat) (sz : Nat) (th tr dp zi co sh lt ts : Int) (mf : Nat → Int32) (x2 : Int32) (hok : okM th tr dp zi co sh lt ts mf) (hp0 : 48 ≤ x2.toInt) (hp1 : x2.toInt ≤ 48) : tz_Met l ⟨"StoryMachineModel", "copy", "([I[II)V"⟩ tw_tbl rm_Mo_copy_9_2 (tzP (dC, dI) vcl cI cJ (gsM a th tr dp zi co sh lt ts mf) a (adM a) [.ref (a 9), .ref (a 2), .int x2] sz) (tq_Q (q_Mo_copy_9_2 dC dI cI cJ a th tr dp zi co sh lt ts mf x2) (ga (adM a) sz)) 0 0 0 0 (ga (adM a) sz) := by
  refine tz_ofW (cc := prog_13_method_56_code) (maxL := 4) (ret := none) (by decide) (tx_isM mw_1428) ?_
  intro p e s m args below meth c s₁ B hml hv
  obtain ⟨rfl, hsz, hI0, hK, hst0⟩ := hv
  have hx := B.exec
  have hb := B.bytes
  have hr := B.returns
  have hts := atoms_spec (ws := tw_tbl) B.pre
  have hown : s.vm.findClass "StoryMachineModel" = some m.cls := findClass_of_methodNamed B.named
  have hlocks := B.notSynchronized
  subst hsz
  have hst := fun (H : Heap) (locs : List Loc) (hS : va_S (ga (adM a) s.heap.size) s.heap H locs) (U : State) (hU : U.heap = H) (hW : s.WarmedH U.vm) => zS_all adM_map hI0 hst0 hS hU hW
  have hAC : ∀ q ∈ adM a, ga (adM a) s.heap.size q := fun q h => Or.inl h
  have hA0 : ∀ q, s.heap.size ≤ q → ga (adM a) s.heap.size q := fun q h => Or.inr h
  have hI : sI (dC, dI) vcl cI cJ (gsM a th tr dp zi co sh lt ts mf) (ga (adM a) s.heap.size) s.heap s.heap [] := ⟨hI0, va_S.rf⟩
  clear hI0 hst0
  have hl := lv_entry ([.ref (a 9), .ref (a 2), .int x2]) (n := 4) (Nat.le_of_ble_eq_true rfl)
  rw [lg_entry_eq]
  generalize (lg_sl ([.ref (a 9), .ref (a 2), .int x2]) ++ List.replicate (4 - (lg_sl ([.ref (a 9), .ref (a 2), .int x2])).length) Slot.unset).toArray = ls at hl ⊢
  have hl : lv_has ls 4 [(0, .ref (a 9)), (1, .ref (a 2)), (2, .int x2)] := hl
  generalize hZ : tz_MQ below (tq_Q (q_Mo_copy_9_2 dC dI cI cJ a th tr dp zi co sh lt ts mf x2) (ga (adM a) s.heap.size)) ([.ref (a 9), .ref (a 2), .int x2] : List Value).toArray s 0 0 0 0 (ga (adM a) s.heap.size) = Z
  obtain ⟨A, hAe⟩ : ∃ A, A = ga (adM a) s.heap.size := ⟨_, rfl⟩
  rw [← hAe] at hst hAC hA0 hI hZ
  refine sv_start hI (fun H locs hI => ?_)
  obtain ⟨⟨o1, o2⟩, ⟨o3, o4⟩, ⟨o5, o6⟩, ⟨o7, o8⟩, ⟨o9, o10⟩, ⟨o11, o12⟩, ⟨o13, o14⟩, ⟨o15, o16⟩, -⟩ := id hok
  have gx2 := sn_rng x2
  have j2 : ∀ (n : Nat) (H : Heap) (locs : List Loc) (ls : Array Slot) (v2_3 : Int32), sI (dC, dI) vcl cI cJ (gsM a th tr dp zi co sh lt ts mf) A s.heap H locs → okM th tr dp zi co sh lt ts mf → 0 ≤ v2_3.toInt → v2_3.toInt ≤ 48 → lv_has ls 4 [(0, .ref (a 9)), (1, .ref (a 2)), (2, .int x2), (3, .int v2_3)] → 48 - v2_3.toInt < (n : Int) → W p l e (headSpec tw_tbl rm_Mo_copy_9_2).room s m ([.ref (a 9), .ref (a 2), .int x2] : List Value).toArray below meth c H locs 0 0 Z (F0 m 2 ls []) := by
    intro n
    induction n with
    | zero => intro H locs ls v2_3 hI hok g2_0 g2_1 hl hme; exfalso; obtain ⟨⟨o17, o18⟩, ⟨o19, o20⟩, ⟨o21, o22⟩, ⟨o23, o24⟩, ⟨o25, o26⟩, ⟨o27, o28⟩, ⟨o29, o30⟩, ⟨o31, o32⟩, -⟩ := id hok; omega
    | succ n ih =>
      intro H locs ls v2_3 hI hok g2_0 g2_1 hl hme
      obtain ⟨⟨o33, o34⟩, ⟨o35, o36⟩, ⟨o37, o38⟩, ⟨o39, o40⟩, ⟨o41, o42⟩, ⟨o43, o44⟩, ⟨o45, o46⟩, ⟨o47, o48⟩, -⟩ := id hok
      refine lv_iload_n hx hb d_Mo_copy_2 rfl (lv_at hl 3 rfl) ?_
      refine lv_iload_n hx hb d_Mo_copy_3 rfl (lv_at hl 2 rfl) ?_
      refine sn_icmp_ge (tgt := 19) hx hb d_Mo_copy_4 (by decide) (fun b49 => ?_) (fun b49 => ?_)
      · subst hZ
        exact tz_ret (W.vret hx hb hr (fun t ht hW => ⟨⟨fun v9 hv9 => by cases hv9; exact (⟨rfl, hok, by rw [ht]; exact hI.1⟩), fun x9 hx9 => (by cases hx9)⟩, hI.2.F ht⟩) hI.2.2.2 d_Mo_copy_19)
      · refine lv_aload_n hx hb d_Mo_copy_7 rfl (lv_at hl 1 rfl) ?_
        refine lv_iload_n hx hb d_Mo_copy_8 rfl (lv_at hl 3 rfl) ?_
        refine lv_aload_n hx hb d_Mo_copy_9 rfl (lv_at hl 0 rfl) ?_
        refine lv_iload_n hx hb d_Mo_copy_10 rfl (lv_at hl 3 rfl) ?_
        refine sv_ialdr hx hb hK hI 9 kM_9 (by omega) (by omega) d_Mo_copy_11 (fun z50 hz50a hz50b => ?_)
        refine sv_iastr hx hb hK (sh_in adM_map hAC) hI 2 kM_2 (by omega) (by omega) (by omega) (by omega) pM_2 d_Mo_copy_12 (fun H locs hI => ?_)
        refine sn_iinc (k := 3) hx hb d_Mo_copy_13 hl rfl (by decide) (by decide) (by omega) (by omega) (fun ls z51 hz51 hl => ?_)
        have hl : lv_has ls 4 [(3, .int z51), (0, .ref (a 9)), (1, .ref (a 2)), (2, .int x2)] := hl
        refine lv_goto (tgt := 2) hx hb d_Mo_copy_16 (by decide) ?_
        exact ih _ _ _ z51 hI hok (by omega) (by omega) (lv_sub hl [1, 2, 3, 0] rfl) (by omega)
  refine sn_iconst hx hb d_Mo_copy_0 (by decide) (fun z52 hz52 => ?_)
  refine lv_istore_n (lv' := [(3, .int z52), (0, .ref (a 9)), (1, .ref (a 2)), (2, .int x2)]) hx hb d_Mo_copy_1 rfl hl (by decide) rfl (fun ls hl => ?_)
  exact j2 49 _ _ _ z52 hI hok (by omega) (by omega) (lv_sub hl [1, 2, 3, 0] rfl) (by omega)
abbrev q_Mo_copy_10_3 (dC : Nat → ClassId) (dI : Nat → Nat → Nat) (cI cJ : ClassId) (a : Nat → Nat) (th tr dp zi co sh lt ts : Int) (mf : Nat → Int32) (x2 : Int32) : Outcome → State → Prop := fun o t => (∀ v, o = .returned v → ((v = none ∧ okM th tr dp zi co sh lt ts mf ∧ sh_I (dC, dI) vcl cI cJ (gsM a th tr dp zi co sh lt ts mf) t.heap))) ∧ (∀ x, o = .threw x → (False))
def rm_Mo_copy_10_3 : Room := { frames := 0, cells := 0, slots := 0, locals := 0 }
set_option maxHeartbeats 4000000 in
set_option maxRecDepth 100000 in
theorem c_Mo_copy_10_3 (l : Launch) (hfl : l.flags = pinnedFlags ++ [noTraceFlag]) (dC : Nat → ClassId) (dI : Nat → Nat → Nat) (cI cJ : ClassId) (a : Nat → Nat) (sz : Nat) (th tr dp zi co sh lt ts : Int) (mf : Nat → Int32) (x2 : Int32) (hok : okM th tr dp zi co sh lt ts mf) (hp0 : 11 ≤ x2.toInt) (hp1 : x2.toInt ≤ 11) : tz_Met l ⟨"StoryMachineModel", "copy", "([I[II)V"⟩ tw_tbl rm_Mo_copy_10_3 (tzP (dC, dI) vcl cI cJ (gsM a th tr dp zi co sh lt ts mf) a (adM a) [.ref (a 10), .ref (a 3), .int x2] sz) (tq_Q (q_Mo_copy_10_3 dC dI cI cJ a th tr dp zi co sh lt ts mf x2) (ga (adM a) sz)) 0 0 0 0 (ga (adM a) sz) := by
  refine tz_ofW (cc := prog_13_method_56_code) (maxL := 4) (ret := none) (by decide) (tx_isM mw_1428) ?_
  intro p e s m args below meth c s₁ B hml hv
  obtain ⟨rfl, hsz, hI0, hK, hst0⟩ := hv
  have hx := B.exec
  have hb := B.bytes
  have hr := B.returns
  have hts := atoms_spec (ws := tw_tbl) B.pre
  have hown : s.vm.findClass "StoryMachineModel" = some m.cls := findClass_of_methodNamed B.named
  have hlocks := B.notSynchronized
  subst hsz
  have hst := fun (H : Heap) (locs : List Loc) (hS : va_S (ga (adM a) s.heap.size) s.heap H locs) (U : State) (hU : U.heap = H) (hW : s.WarmedH U.vm) => zS_all adM_map hI0 hst0 hS hU hW
  have hAC : ∀ q ∈ adM a, ga (adM a) s.heap.size q := fun q h => Or.inl h
  have hA0 : ∀ q, s.heap.size ≤ q → ga (adM a) s.heap.size q := fun q h => Or.inr h
  have hI : sI (dC, dI) vcl cI cJ (gsM a th tr dp zi co sh lt ts mf) (ga (adM a) s.heap.size) s.heap s.heap [] := ⟨hI0, va_S.rf⟩
  clear hI0 hst0
  have hl := lv_entry ([.ref (a 10), .ref (a 3), .int x2]) (n := 4) (Nat.le_of_ble_eq_true rfl)
  rw [lg_entry_eq]
  generalize (lg_sl ([.ref (a 10), .ref (a 3), .int x2]) ++ List.replicate (4 - (lg_sl ([.ref (a 10), .ref (a 3), .int x2])).length) Slot.unset).toArray = ls at hl ⊢
  have hl : lv_has ls 4 [(0, .ref (a 10)), (1, .ref (a 3)), (2, .int x2)] := hl
  generalize hZ : tz_MQ below (tq_Q (q_Mo_copy_10_3 dC dI cI cJ a th tr dp zi co sh lt ts mf x2) (ga (adM a) s.heap.size)) ([.ref (a 10), .ref (a 3), .int x2] : List Value).toArray s 0 0 0 0 (ga (adM a) s.heap.size) = Z
  obtain ⟨A, hAe⟩ : ∃ A, A = ga (adM a) s.heap.size := ⟨_, rfl⟩
  rw [← hAe] at hst hAC hA0 hI hZ
  refine sv_start hI (fun H locs hI => ?_)
  obtain ⟨⟨o1, o2⟩, ⟨o3, o4⟩, ⟨o5, o6⟩, ⟨o7, o8⟩, ⟨o9, o10⟩, ⟨o11, o12⟩, ⟨o13, o14⟩, ⟨o15, o16⟩, -⟩ := id hok
  have gx2 := sn_rng x2
  have j2 : ∀ (n : Nat) (H : Heap) (locs : List Loc) (ls : Array Slot) (v2_3 : Int32), sI (dC, dI) vcl cI cJ (gsM a th tr dp zi co sh lt ts mf) A s.heap H locs → okM th tr dp zi co sh lt ts mf → 0 ≤ v2_3.toInt → v2_3.toInt ≤ 11 → lv_has ls 4 [(0, .ref (a 10)), (1, .ref (a 3)), (2, .int x2), (3, .int v2_3)] → 11 - v2_3.toInt < (n : Int) → W p l e (headSpec tw_tbl rm_Mo_copy_10_3).room s m ([.ref (a 10), .ref (a 3), .int x2] : List Value).toArray below meth c H locs 0 0 Z (F0 m 2 ls []) := by
    intro n
    induction n with
    | zero => intro H locs ls v2_3 hI hok g2_0 g2_1 hl hme; exfalso; obtain ⟨⟨o17, o18⟩, ⟨o19, o20⟩, ⟨o21, o22⟩, ⟨o23, o24⟩, ⟨o25, o26⟩, ⟨o27, o28⟩, ⟨o29, o30⟩, ⟨o31, o32⟩, -⟩ := id hok; omega
    | succ n ih =>
      intro H locs ls v2_3 hI hok g2_0 g2_1 hl hme
      obtain ⟨⟨o33, o34⟩, ⟨o35, o36⟩, ⟨o37, o38⟩, ⟨o39, o40⟩, ⟨o41, o42⟩, ⟨o43, o44⟩, ⟨o45, o46⟩, ⟨o47, o48⟩, -⟩ := id hok
      refine lv_iload_n hx hb d_Mo_copy_2 rfl (lv_at hl 3 rfl) ?_
      refine lv_iload_n hx hb d_Mo_copy_3 rfl (lv_at hl 2 rfl) ?_
      refine sn_icmp_ge (tgt := 19) hx hb d_Mo_copy_4 (by decide) (fun b49 => ?_) (fun b49 => ?_)
      · subst hZ
        exact tz_ret (W.vret hx hb hr (fun t ht hW => ⟨⟨fun v9 hv9 => by cases hv9; exact (⟨rfl, hok, by rw [ht]; exact hI.1⟩), fun x9 hx9 => (by cases hx9)⟩, hI.2.F ht⟩) hI.2.2.2 d_Mo_copy_19)
      · refine lv_aload_n hx hb d_Mo_copy_7 rfl (lv_at hl 1 rfl) ?_
        refine lv_iload_n hx hb d_Mo_copy_8 rfl (lv_at hl 3 rfl) ?_
        refine lv_aload_n hx hb d_Mo_copy_9 rfl (lv_at hl 0 rfl) ?_
        refine lv_iload_n hx hb d_Mo_copy_10 rfl (lv_at hl 3 rfl) ?_
        refine sv_ialdr hx hb hK hI 10 kM_10 (by omega) (by omega) d_Mo_copy_11 (fun z50 hz50a hz50b => ?_)
        refine sv_iastr hx hb hK (sh_in adM_map hAC) hI 3 kM_3 (by omega) (by omega) (by omega) (by omega) pM_3 d_Mo_copy_12 (fun H locs hI => ?_)
        refine sn_iinc (k := 3) hx hb d_Mo_copy_13 hl rfl (by decide) (by decide) (by omega) (by omega) (fun ls z51 hz51 hl => ?_)
        have hl : lv_has ls 4 [(3, .int z51), (0, .ref (a 10)), (1, .ref (a 3)), (2, .int x2)] := hl
        refine lv_goto (tgt := 2) hx hb d_Mo_copy_16 (by decide) ?_
        exact ih _ _ _ z51 hI hok (by omega) (by omega) (lv_sub hl [1, 2, 3, 0] rfl) (by omega)
  refine sn_iconst hx hb d_Mo_copy_0 (by decide) (fun z52 hz52 => ?_)
  refine lv_istore_n (lv' := [(3, .int z52), (0, .ref (a 10)), (1, .ref (a 3)), (2, .int x2)]) hx hb d_Mo_copy_1 rfl hl (by decide) rfl (fun ls hl => ?_)
  exact j2 12 _ _ _ z52 hI hok (by omega) (by omega) (lv_sub hl [1, 2, 3, 0] rfl) (by omega)
abbrev q_Mo_copy_11_4 (dC : Nat → ClassId) (dI : Nat → Nat → Nat) (cI cJ : ClassId) (a : Nat → Nat) (th tr dp zi co sh lt ts : Int) (mf : Nat → Int32) (x2 : Int32) : Outcome → State → Prop := fun o t => (∀ v, o = .returned v → ((v = none ∧ okM th tr dp zi co sh lt ts mf ∧ sh_I (dC, dI) vcl cI cJ (gsM a th tr dp zi co sh lt ts mf) t.heap))) ∧ (∀ x, o = .threw x → (False))
def rm_Mo_copy_11_4 : Room := { frames := 0, cells := 0, slots := 0, locals := 0 }
set_option maxHeartbeats 4000000 in
set_option maxRecDepth 100000 in
theorem c_Mo_copy_11_4 (l : Launch) (hfl : l.flags = pinnedFlags ++ [noTraceFlag]) (dC : Nat → ClassId) (dI : Nat → Nat → Nat) (cI cJ : ClassId) (a : Nat → Nat) (sz : Nat) (th tr dp zi co sh lt ts : Int) (mf : Nat → Int32) (x2 : Int32) (hok : okM th tr dp zi co sh lt ts mf) (hp0 : 11 ≤ x2.toInt) (hp1 : x2.toInt ≤ 11) : tz_Met l ⟨"StoryMachineModel", "copy", "([I[II)V"⟩ tw_tbl rm_Mo_copy_11_4 (tzP (dC, dI) vcl cI cJ (gsM a th tr dp zi co sh lt ts mf) a (adM a) [.ref (a 11), .ref (a 4), .int x2] sz) (tq_Q (q_Mo_copy_11_4 dC dI cI cJ a th tr dp zi co sh lt ts mf x2) (ga (adM a) sz)) 0 0 0 0 (ga (adM a) sz) := by
  refine tz_ofW (cc := prog_13_method_56_code) (maxL := 4) (ret := none) (by decide) (tx_isM mw_1428) ?_
  intro p e s m args below meth c s₁ B hml hv
  obtain ⟨rfl, hsz, hI0, hK, hst0⟩ := hv
  have hx := B.exec
  have hb := B.bytes
  have hr := B.returns
  have hts := atoms_spec (ws := tw_tbl) B.pre
  have hown : s.vm.findClass "StoryMachineModel" = some m.cls := findClass_of_methodNamed B.named
  have hlocks := B.notSynchronized
  subst hsz
  have hst := fun (H : Heap) (locs : List Loc) (hS : va_S (ga (adM a) s.heap.size) s.heap H locs) (U : State) (hU : U.heap = H) (hW : s.WarmedH U.vm) => zS_all adM_map hI0 hst0 hS hU hW
  have hAC : ∀ q ∈ adM a, ga (adM a) s.heap.size q := fun q h => Or.inl h
  have hA0 : ∀ q, s.heap.size ≤ q → ga (adM a) s.heap.size q := fun q h => Or.inr h
  have hI : sI (dC, dI) vcl cI cJ (gsM a th tr dp zi co sh lt ts mf) (ga (adM a) s.heap.size) s.heap s.heap [] := ⟨hI0, va_S.rf⟩
  clear hI0 hst0
  have hl := lv_entry ([.ref (a 11), .ref (a 4), .int x2]) (n := 4) (Nat.le_of_ble_eq_true rfl)
  rw [lg_entry_eq]
  generalize (lg_sl ([.ref (a 11), .ref (a 4), .int x2]) ++ List.replicate (4 - (lg_sl ([.ref (a 11), .ref (a 4), .int x2])).length) Slot.unset).toArray = ls at hl ⊢
  have hl : lv_has ls 4 [(0, .ref (a 11)), (1, .ref (a 4)), (2, .int x2)] := hl
  generalize hZ : tz_MQ below (tq_Q (q_Mo_copy_11_4 dC dI cI cJ a th tr dp zi co sh lt ts mf x2) (ga (adM a) s.heap.size)) ([.ref (a 11), .ref (a 4), .int x2] : List Value).toArray s 0 0 0 0 (ga (adM a) s.heap.size) = Z
  obtain ⟨A, hAe⟩ : ∃ A, A = ga (adM a) s.heap.size := ⟨_, rfl⟩
  rw [← hAe] at hst hAC hA0 hI hZ
  refine sv_start hI (fun H locs hI => ?_)
  obtain ⟨⟨o1, o2⟩, ⟨o3, o4⟩, ⟨o5, o6⟩, ⟨o7, o8⟩, ⟨o9, o10⟩, ⟨o11, o12⟩, ⟨o13, o14⟩, ⟨o15, o16⟩, -⟩ := id hok
  have gx2 := sn_rng x2
  have j2 : ∀ (n : Nat) (H : Heap) (locs : List Loc) (ls : Array Slot) (v2_3 : Int32), sI (dC, dI) vcl cI cJ (gsM a th tr dp zi co sh lt ts mf) A s.heap H locs → okM th tr dp zi co sh lt ts mf → 0 ≤ v2_3.toInt → v2_3.toInt ≤ 11 → lv_has ls 4 [(0, .ref (a 11)), (1, .ref (a 4)), (2, .int x2), (3, .int v2_3)] → 11 - v2_3.toInt < (n : Int) → W p l e (headSpec tw_tbl rm_Mo_copy_11_4).room s m ([.ref (a 11), .ref (a 4), .int x2] : List Value).toArray below meth c H locs 0 0 Z (F0 m 2 ls []) := by
    intro n
    induction n with
    | zero => intro H locs ls v2_3 hI hok g2_0 g2_1 hl hme; exfalso; obtain ⟨⟨o17, o18⟩, ⟨o19, o20⟩, ⟨o21, o22⟩, ⟨o23, o24⟩, ⟨o25, o26⟩, ⟨o27, o28⟩, ⟨o29, o30⟩, ⟨o31, o32⟩, -⟩ := id hok; omega
    | succ n ih =>
      intro H locs ls v2_3 hI hok g2_0 g2_1 hl hme
      obtain ⟨⟨o33, o34⟩, ⟨o35, o36⟩, ⟨o37, o38⟩, ⟨o39, o40⟩, ⟨o41, o42⟩, ⟨o43, o44⟩, ⟨o45, o46⟩, ⟨o47, o48⟩, -⟩ := id hok
      refine lv_iload_n hx hb d_Mo_copy_2 rfl (lv_at hl 3 rfl) ?_
      refine lv_iload_n hx hb d_Mo_copy_3 rfl (lv_at hl 2 rfl) ?_
      refine sn_icmp_ge (tgt := 19) hx hb d_Mo_copy_4 (by decide) (fun b49 => ?_) (fun b49 => ?_)
      · subst hZ
        exact tz_ret (W.vret hx hb hr (fun t ht hW => ⟨⟨fun v9 hv9 => by cases hv9; exact (⟨rfl, hok, by rw [ht]; exact hI.1⟩), fun x9 hx9 => (by cases hx9)⟩, hI.2.F ht⟩) hI.2.2.2 d_Mo_copy_19)
      · refine lv_aload_n hx hb d_Mo_copy_7 rfl (lv_at hl 1 rfl) ?_
        refine lv_iload_n hx hb d_Mo_copy_8 rfl (lv_at hl 3 rfl) ?_
        refine lv_aload_n hx hb d_Mo_copy_9 rfl (lv_at hl 0 rfl) ?_
        refine lv_iload_n hx hb d_Mo_copy_10 rfl (lv_at hl 3 rfl) ?_
        refine sv_ialdr hx hb hK hI 11 kM_11 (by omega) (by omega) d_Mo_copy_11 (fun z50 hz50a hz50b => ?_)
        refine sv_iastr hx hb hK (sh_in adM_map hAC) hI 4 kM_4 (by omega) (by omega) (by omega) (by omega) pM_4 d_Mo_copy_12 (fun H locs hI => ?_)
        refine sn_iinc (k := 3) hx hb d_Mo_copy_13 hl rfl (by decide) (by decide) (by omega) (by omega) (fun ls z51 hz51 hl => ?_)
        have hl : lv_has ls 4 [(3, .int z51), (0, .ref (a 11)), (1, .ref (a 4)), (2, .int x2)] := hl
        refine lv_goto (tgt := 2) hx hb d_Mo_copy_16 (by decide) ?_
        exact ih _ _ _ z51 hI hok (by omega) (by omega) (lv_sub hl [1, 2, 3, 0] rfl) (by omega)
  refine sn_iconst hx hb d_Mo_copy_0 (by decide) (fun z52 hz52 => ?_)
  refine lv_istore_n (lv' := [(3, .int z52), (0, .ref (a 11)), (1, .ref (a 4)), (2, .int x2)]) hx hb d_Mo_copy_1 rfl hl (by decide) rfl (fun ls hl => ?_)
  exact j2 12 _ _ _ z52 hI hok (by omega) (by omega) (lv_sub hl [1, 2, 3, 0] rfl) (by omega)
abbrev q_Mo_copy_12_5 (dC : Nat → ClassId) (dI : Nat → Nat → Nat) (cI cJ : ClassId) (a : Nat → Nat) (th tr dp zi co sh lt ts : Int) (mf : Nat → Int32) (x2 : Int32) : Outcome → State → Prop := fun o t => (∀ v, o = .returned v → ((v = none ∧ okM th tr dp zi co sh lt ts mf ∧ sh_I (dC, dI) vcl cI cJ (gsM a th tr dp zi co sh lt ts mf) t.heap))) ∧ (∀ x, o = .threw x → (False))
def rm_Mo_copy_12_5 : Room := { frames := 0, cells := 0, slots := 0, locals := 0 }
set_option maxHeartbeats 4000000 in
set_option maxRecDepth 100000 in
theorem c_Mo_copy_12_5 (l : Launch) (hfl : l.flags = pinnedFlags ++ [noTraceFlag]) (dC : Nat → ClassId) (dI : Nat → Nat → Nat) (cI cJ : ClassId) (a : Nat → Nat) (sz : Nat) (th tr dp zi co sh lt ts : Int) (mf : Nat → Int32) (x2 : Int32) (hok : okM th tr dp zi co sh lt ts mf) (hp0 : 11 ≤ x2.toInt) (hp1 : x2.toInt ≤ 11) : tz_Met l ⟨"StoryMachineModel", "copy", "([I[II)V"⟩ tw_tbl rm_Mo_copy_12_5 (tzP (dC, dI) vcl cI cJ (gsM a th tr dp zi co sh lt ts mf) a (adM a) [.ref (a 12), .ref (a 5), .int x2] sz) (tq_Q (q_Mo_copy_12_5 dC dI cI cJ a th tr dp zi co sh lt ts mf x2) (ga (adM a) sz)) 0 0 0 0 (ga (adM a) sz) := by
  refine tz_ofW (cc := prog_13_method_56_code) (maxL := 4) (ret := none) (by decide) (tx_isM mw_1428) ?_
  intro p e s m args below meth c s₁ B hml hv
  obtain ⟨rfl, hsz, hI0, hK, hst0⟩ := hv
  have hx := B.exec
  have hb := B.bytes
  have hr := B.returns
  have hts := atoms_spec (ws := tw_tbl) B.pre
  have hown : s.vm.findClass "StoryMachineModel" = some m.cls := findClass_of_methodNamed B.named
  have hlocks := B.notSynchronized
  subst hsz
  have hst := fun (H : Heap) (locs : List Loc) (hS : va_S (ga (adM a) s.heap.size) s.heap H locs) (U : State) (hU : U.heap = H) (hW : s.WarmedH U.vm) => zS_all adM_map hI0 hst0 hS hU hW
  have hAC : ∀ q ∈ adM a, ga (adM a) s.heap.size q := fun q h => Or.inl h
  have hA0 : ∀ q, s.heap.size ≤ q → ga (adM a) s.heap.size q := fun q h => Or.inr h
  have hI : sI (dC, dI) vcl cI cJ (gsM a th tr dp zi co sh lt ts mf) (ga (adM a) s.heap.size) s.heap s.heap [] := ⟨hI0, va_S.rf⟩
  clear hI0 hst0
  have hl := lv_entry ([.ref (a 12), .ref (a 5), .int x2]) (n := 4) (Nat.le_of_ble_eq_true rfl)
  rw [lg_entry_eq]
  generalize (lg_sl ([.ref (a 12), .ref (a 5), .int x2]) ++ List.replicate (4 - (lg_sl ([.ref (a 12), .ref (a 5), .int x2])).length) Slot.unset).toArray = ls at hl ⊢
  have hl : lv_has ls 4 [(0, .ref (a 12)), (1, .ref (a 5)), (2, .int x2)] := hl
  generalize hZ : tz_MQ below (tq_Q (q_Mo_copy_12_5 dC dI cI cJ a th tr dp zi co sh lt ts mf x2) (ga (adM a) s.heap.size)) ([.ref (a 12), .ref (a 5), .int x2] : List Value).toArray s 0 0 0 0 (ga (adM a) s.heap.size) = Z
  obtain ⟨A, hAe⟩ : ∃ A, A = ga (adM a) s.heap.size := ⟨_, rfl⟩
  rw [← hAe] at hst hAC hA0 hI hZ
  refine sv_start hI (fun H locs hI => ?_)
  obtain ⟨⟨o1, o2⟩, ⟨o3, o4⟩, ⟨o5, o6⟩, ⟨o7, o8⟩, ⟨o9, o10⟩, ⟨o11, o12⟩, ⟨o13, o14⟩, ⟨o15, o16⟩, -⟩ := id hok
  have gx2 := sn_rng x2
  have j2 : ∀ (n : Nat) (H : Heap) (locs : List Loc) (ls : Array Slot) (v2_3 : Int32), sI (dC, dI) vcl cI cJ (gsM a th tr dp zi co sh lt ts mf) A s.heap H locs → okM th tr dp zi co sh lt ts mf → 0 ≤ v2_3.toInt → v2_3.toInt ≤ 11 → lv_has ls 4 [(0, .ref (a 12)), (1, .ref (a 5)), (2, .int x2), (3, .int v2_3)] → 11 - v2_3.toInt < (n : Int) → W p l e (headSpec tw_tbl rm_Mo_copy_12_5).room s m ([.ref (a 12), .ref (a 5), .int x2] : List Value).toArray below meth c H locs 0 0 Z (F0 m 2 ls []) := by
    intro n
    induction n with
    | zero => intro H locs ls v2_3 hI hok g2_0 g2_1 hl hme; exfalso; obtain ⟨⟨o17, o18⟩, ⟨o19, o20⟩, ⟨o21, o22⟩, ⟨o23, o24⟩, ⟨o25, o26⟩, ⟨o27, o28⟩, ⟨o29, o30⟩, ⟨o31, o32⟩, -⟩ := id hok; omega
    | succ n ih =>
      intro H locs ls v2_3 hI hok g2_0 g2_1 hl hme
      obtain ⟨⟨o33, o34⟩, ⟨o35, o36⟩, ⟨o37, o38⟩, ⟨o39, o40⟩, ⟨o41, o42⟩, ⟨o43, o44⟩, ⟨o45, o46⟩, ⟨o47, o48⟩, -⟩ := id hok
      refine lv_iload_n hx hb d_Mo_copy_2 rfl (lv_at hl 3 rfl) ?_
      refine lv_iload_n hx hb d_Mo_copy_3 rfl (lv_at hl 2 rfl) ?_
      refine sn_icmp_ge (tgt := 19) hx hb d_Mo_copy_4 (by decide) (fun b49 => ?_) (fun b49 => ?_)
      · subst hZ
        exact tz_ret (W.vret hx hb hr (fun t ht hW => ⟨⟨fun v9 hv9 => by cases hv9; exact (⟨rfl, hok, by rw [ht]; exact hI.1⟩), fun x9 hx9 => (by cases hx9)⟩, hI.2.F ht⟩) hI.2.2.2 d_Mo_copy_19)
      · refine lv_aload_n hx hb d_Mo_copy_7 rfl (lv_at hl 1 rfl) ?_
        refine lv_iload_n hx hb d_Mo_copy_8 rfl (lv_at hl 3 rfl) ?_
        refine lv_aload_n hx hb d_Mo_copy_9 rfl (lv_at hl 0 rfl) ?_
        refine lv_iload_n hx hb d_Mo_copy_10 rfl (lv_at hl 3 rfl) ?_
        refine sv_ialdr hx hb hK hI 12 kM_12 (by omega) (by omega) d_Mo_copy_11 (fun z50 hz50a hz50b => ?_)
        refine sv_iastr hx hb hK (sh_in adM_map hAC) hI 5 kM_5 (by omega) (by omega) (by omega) (by omega) pM_5 d_Mo_copy_12 (fun H locs hI => ?_)
        refine sn_iinc (k := 3) hx hb d_Mo_copy_13 hl rfl (by decide) (by decide) (by omega) (by omega) (fun ls z51 hz51 hl => ?_)
        have hl : lv_has ls 4 [(3, .int z51), (0, .ref (a 12)), (1, .ref (a 5)), (2, .int x2)] := hl
        refine lv_goto (tgt := 2) hx hb d_Mo_copy_16 (by decide) ?_
        exact ih _ _ _ z51 hI hok (by omega) (by omega) (lv_sub hl [1, 2, 3, 0] rfl) (by omega)
  refine sn_iconst hx hb d_Mo_copy_0 (by decide) (fun z52 hz52 => ?_)
  refine lv_istore_n (lv' := [(3, .int z52), (0, .ref (a 12)), (1, .ref (a 5)), (2, .int x2)]) hx hb d_Mo_copy_1 rfl hl (by decide) rfl (fun ls hl => ?_)
  exact j2 12 _ _ _ z52 hI hok (by omega) (by omega) (lv_sub hl [1, 2, 3, 0] rfl) (by omega)
abbrev q_Mo_copy_13_6 (dC : Nat → ClassId) (dI : Nat → Nat → Nat) (cI cJ : ClassId) (a : Nat → Nat) (th tr dp zi co sh lt ts : Int) (mf : Nat → Int32) (x2 : Int32) : Outcome → State → Prop := fun o t => (∀ v, o = .returned v → ((v = none ∧ okM th tr dp zi co sh lt ts mf ∧ sh_I (dC, dI) vcl cI cJ (gsM a th tr dp zi co sh lt ts mf) t.heap))) ∧ (∀ x, o = .threw x → (False))
def rm_Mo_copy_13_6 : Room := { frames := 0, cells := 0, slots := 0, locals := 0 }
set_option maxHeartbeats 4000000 in
set_option maxRecDepth 100000 in
theorem c_Mo_copy_13_6 (l : Launch) (hfl : l.flags = pinnedFlags ++ [noTraceFlag]) (dC : Nat → ClassId) (dI : Nat → Nat → Nat) (cI cJ : ClassId) (a : Nat → Nat) (sz : Nat) (th tr dp zi co sh lt ts : Int) (mf : Nat → Int32) (x2 : Int32) (hok : okM th tr dp zi co sh lt ts mf) (hp0 : 11 ≤ x2.toInt) (hp1 : x2.toInt ≤ 11) : tz_Met l ⟨"StoryMachineModel", "copy", "([I[II)V"⟩ tw_tbl rm_Mo_copy_13_6 (tzP (dC, dI) vcl cI cJ (gsM a th tr dp zi co sh lt ts mf) a (adM a) [.ref (a 13), .ref (a 6), .int x2] sz) (tq_Q (q_Mo_copy_13_6 dC dI cI cJ a th tr dp zi co sh lt ts mf x2) (ga (adM a) sz)) 0 0 0 0 (ga (adM a) sz) := by
  refine tz_ofW (cc := prog_13_method_56_code) (maxL := 4) (ret := none) (by decide) (tx_isM mw_1428) ?_
  intro p e s m args below meth c s₁ B hml hv
  obtain ⟨rfl, hsz, hI0, hK, hst0⟩ := hv
  have hx := B.exec
  have hb := B.bytes
  have hr := B.returns
  have hts := atoms_spec (ws := tw_tbl) B.pre
  have hown : s.vm.findClass "StoryMachineModel" = some m.cls := findClass_of_methodNamed B.named
  have hlocks := B.notSynchronized
  subst hsz
  have hst := fun (H : Heap) (locs : List Loc) (hS : va_S (ga (adM a) s.heap.size) s.heap H locs) (U : State) (hU : U.heap = H) (hW : s.WarmedH U.vm) => zS_all adM_map hI0 hst0 hS hU hW
  have hAC : ∀ q ∈ adM a, ga (adM a) s.heap.size q := fun q h => Or.inl h
  have hA0 : ∀ q, s.heap.size ≤ q → ga (adM a) s.heap.size q := fun q h => Or.inr h
  have hI : sI (dC, dI) vcl cI cJ (gsM a th tr dp zi co sh lt ts mf) (ga (adM a) s.heap.size) s.heap s.heap [] := ⟨hI0, va_S.rf⟩
  clear hI0 hst0
  have hl := lv_entry ([.ref (a 13), .ref (a 6), .int x2]) (n := 4) (Nat.le_of_ble_eq_true rfl)
  rw [lg_entry_eq]
  generalize (lg_sl ([.ref (a 13), .ref (a 6), .int x2]) ++ List.replicate (4 - (lg_sl ([.ref (a 13), .ref (a 6), .int x2])).length) Slot.unset).toArray = ls at hl ⊢
  have hl : lv_has ls 4 [(0, .ref (a 13)), (1, .ref (a 6)), (2, .int x2)] := hl
  generalize hZ : tz_MQ below (tq_Q (q_Mo_copy_13_6 dC dI cI cJ a th tr dp zi co sh lt ts mf x2) (ga (adM a) s.heap.size)) ([.ref (a 13), .ref (a 6), .int x2] : List Value).toArray s 0 0 0 0 (ga (adM a) s.heap.size) = Z
  obtain ⟨A, hAe⟩ : ∃ A, A = ga (adM a) s.heap.size := ⟨_, rfl⟩
  rw [← hAe] at hst hAC hA0 hI hZ
  refine sv_start hI (fun H locs hI => ?_)
  obtain ⟨⟨o1, o2⟩, ⟨o3, o4⟩, ⟨o5, o6⟩, ⟨o7, o8⟩, ⟨o9, o10⟩, ⟨o11, o12⟩, ⟨o13, o14⟩, ⟨o15, o16⟩, -⟩ := id hok
  have gx2 := sn_rng x2
  have j2 : ∀ (n : Nat) (H : Heap) (locs : List Loc) (ls : Array Slot) (v2_3 : Int32), sI (dC, dI) vcl cI cJ (gsM a th tr dp zi co sh lt ts mf) A s.heap H locs → okM th tr dp zi co sh lt ts mf → 0 ≤ v2_3.toInt → v2_3.toInt ≤ 11 → lv_has ls 4 [(0, .ref (a 13)), (1, .ref (a 6)), (2, .int x2), (3, .int v2_3)] → 11 - v2_3.toInt < (n : Int) → W p l e (headSpec tw_tbl rm_Mo_copy_13_6).room s m ([.ref (a 13), .ref (a 6), .int x2] : List Value).toArray below meth c H locs 0 0 Z (F0 m 2 ls []) := by
    intro n
    induction n with
    | zero => intro H locs ls v2_3 hI hok g2_0 g2_1 hl hme; exfalso; obtain ⟨⟨o17, o18⟩, ⟨o19, o20⟩, ⟨o21, o22⟩, ⟨o23, o24⟩, ⟨o25, o26⟩, ⟨o27, o28⟩, ⟨o29, o30⟩, ⟨o31, o32⟩, -⟩ := id hok; omega
    | succ n ih =>
      intro H locs ls v2_3 hI hok g2_0 g2_1 hl hme
      obtain ⟨⟨o33, o34⟩, ⟨o35, o36⟩, ⟨o37, o38⟩, ⟨o39, o40⟩, ⟨o41, o42⟩, ⟨o43, o44⟩, ⟨o45, o46⟩, ⟨o47, o48⟩, -⟩ := id hok
      refine lv_iload_n hx hb d_Mo_copy_2 rfl (lv_at hl 3 rfl) ?_
      refine lv_iload_n hx hb d_Mo_copy_3 rfl (lv_at hl 2 rfl) ?_
      refine sn_icmp_ge (tgt := 19) hx hb d_Mo_copy_4 (by decide) (fun b49 => ?_) (fun b49 => ?_)
      · subst hZ
        exact tz_ret (W.vret hx hb hr (fun t ht hW => ⟨⟨fun v9 hv9 => by cases hv9; exact (⟨rfl, hok, by rw [ht]; exact hI.1⟩), fun x9 hx9 => (by cases hx9)⟩, hI.2.F ht⟩) hI.2.2.2 d_Mo_copy_19)
      · refine lv_aload_n hx hb d_Mo_copy_7 rfl (lv_at hl 1 rfl) ?_
        refine lv_iload_n hx hb d_Mo_copy_8 rfl (lv_at hl 3 rfl) ?_
        refine lv_aload_n hx hb d_Mo_copy_9 rfl (lv_at hl 0 rfl) ?_
        refine lv_iload_n hx hb d_Mo_copy_10 rfl (lv_at hl 3 rfl) ?_
        refine sv_ialdr hx hb hK hI 13 kM_13 (by omega) (by omega) d_Mo_copy_11 (fun z50 hz50a hz50b => ?_)
        refine sv_iastr hx hb hK (sh_in adM_map hAC) hI 6 kM_6 (by omega) (by omega) (by omega) (by omega) pM_6 d_Mo_copy_12 (fun H locs hI => ?_)
        refine sn_iinc (k := 3) hx hb d_Mo_copy_13 hl rfl (by decide) (by decide) (by omega) (by omega) (fun ls z51 hz51 hl => ?_)
        have hl : lv_has ls 4 [(3, .int z51), (0, .ref (a 13)), (1, .ref (a 6)), (2, .int x2)] := hl
        refine lv_goto (tgt := 2) hx hb d_Mo_copy_16 (by decide) ?_
        exact ih _ _ _ z51 hI hok (by omega) (by omega) (lv_sub hl [1, 2, 3, 0] rfl) (by omega)
  refine sn_iconst hx hb d_Mo_copy_0 (by decide) (fun z52 hz52 => ?_)
  refine lv_istore_n (lv' := [(3, .int z52), (0, .ref (a 13)), (1, .ref (a 6)), (2, .int x2)]) hx hb d_Mo_copy_1 rfl hl (by decide) rfl (fun ls hl => ?_)
  exact j2 12 _ _ _ z52 hI hok (by omega) (by omega) (lv_sub hl [1, 2, 3, 0] rfl) (by omega)
abbrev q_Mo_copy_14_7 (dC : Nat → ClassId) (dI : Nat → Nat → Nat) (cI cJ : ClassId) (a : Nat → Nat) (th tr dp zi co sh lt ts : Int) (mf : Nat → Int32) (x2 : Int32) : Outcome → State → Prop := fun o t => (∀ v, o = .returned v → ((v = none ∧ okM th tr dp zi co sh lt ts mf ∧ sh_I (dC, dI) vcl cI cJ (gsM a th tr dp zi co sh lt ts mf) t.heap))) ∧ (∀ x, o = .threw x → (False))
def rm_Mo_copy_14_7 : Room := { frames := 0, cells := 0, slots := 0, locals := 0 }
set_option maxHeartbeats 4000000 in
set_option maxRecDepth 100000 in
theorem c_Mo_copy_14_7 (l : Launch) (hfl : l.flags = pinnedFlags ++ [noTraceFlag]) (dC : Nat → ClassId) (dI : Nat → Nat → Nat) (cI cJ : ClassId) (a : Nat → Nat) (sz : Nat) (th tr dp zi co sh lt ts : Int) (mf : Nat → Int32) (x2 : Int32) (hok : okM th tr dp zi co sh lt ts mf) (hp0 : 165 ≤ x2.toInt) (hp1 : x2.toInt ≤ 165) : tz_Met l ⟨"StoryMachineModel", "copy", "([I[II)V"⟩ tw_tbl rm_Mo_copy_14_7 (tzP (dC, dI) vcl cI cJ (gsM a th tr dp zi co sh lt ts mf) a (adM a) [.ref (a 14), .ref (a 7), .int x2] sz) (tq_Q (q_Mo_copy_14_7 dC dI cI cJ a th tr dp zi co sh lt ts mf x2) (ga (adM a) sz)) 0 0 0 0 (ga (adM a) sz) := by
  refine tz_ofW (cc := prog_13_method_56_code) (maxL := 4) (ret := none) (by decide) (tx_isM mw_1428) ?_
  intro p e s m args below meth c s₁ B hml hv
  obtain ⟨rfl, hsz, hI0, hK, hst0⟩ := hv
  have hx := B.exec
  have hb := B.bytes
  have hr := B.returns
  have hts := atoms_spec (ws := tw_tbl) B.pre
  have hown : s.vm.findClass "StoryMachineModel" = some m.cls := findClass_of_methodNamed B.named
  have hlocks := B.notSynchronized
  subst hsz
  have hst := fun (H : Heap) (locs : List Loc) (hS : va_S (ga (adM a) s.heap.size) s.heap H locs) (U : State) (hU : U.heap = H) (hW : s.WarmedH U.vm) => zS_all adM_map hI0 hst0 hS hU hW
  have hAC : ∀ q ∈ adM a, ga (adM a) s.heap.size q := fun q h => Or.inl h
  have hA0 : ∀ q, s.heap.size ≤ q → ga (adM a) s.heap.size q := fun q h => Or.inr h
  have hI : sI (dC, dI) vcl cI cJ (gsM a th tr dp zi co sh lt ts mf) (ga (adM a) s.heap.size) s.heap s.heap [] := ⟨hI0, va_S.rf⟩
  clear hI0 hst0
  have hl := lv_entry ([.ref (a 14), .ref (a 7), .int x2]) (n := 4) (Nat.le_of_ble_eq_true rfl)
  rw [lg_entry_eq]
  generalize (lg_sl ([.ref (a 14), .ref (a 7), .int x2]) ++ List.replicate (4 - (lg_sl ([.ref (a 14), .ref (a 7), .int x2])).length) Slot.unset).toArray = ls at hl ⊢
  have hl : lv_has ls 4 [(0, .ref (a 14)), (1, .ref (a 7)), (2, .int x2)] := hl
  generalize hZ : tz_MQ below (tq_Q (q_Mo_copy_14_7 dC dI cI cJ a th tr dp zi co sh lt ts mf x2) (ga (adM a) s.heap.size)) ([.ref (a 14), .ref (a 7), .int x2] : List Value).toArray s 0 0 0 0 (ga (adM a) s.heap.size) = Z
  obtain ⟨A, hAe⟩ : ∃ A, A = ga (adM a) s.heap.size := ⟨_, rfl⟩
  rw [← hAe] at hst hAC hA0 hI hZ
  refine sv_start hI (fun H locs hI => ?_)
  obtain ⟨⟨o1, o2⟩, ⟨o3, o4⟩, ⟨o5, o6⟩, ⟨o7, o8⟩, ⟨o9, o10⟩, ⟨o11, o12⟩, ⟨o13, o14⟩, ⟨o15, o16⟩, -⟩ := id hok
  have gx2 := sn_rng x2
  have j2 : ∀ (n : Nat) (H : Heap) (locs : List Loc) (ls : Array Slot) (v2_3 : Int32), sI (dC, dI) vcl cI cJ (gsM a th tr dp zi co sh lt ts mf) A s.heap H locs → okM th tr dp zi co sh lt ts mf → 0 ≤ v2_3.toInt → v2_3.toInt ≤ 165 → lv_has ls 4 [(0, .ref (a 14)), (1, .ref (a 7)), (2, .int x2), (3, .int v2_3)] → 165 - v2_3.toInt < (n : Int) → W p l e (headSpec tw_tbl rm_Mo_copy_14_7).room s m ([.ref (a 14), .ref (a 7), .int x2] : List Value).toArray below meth c H locs 0 0 Z (F0 m 2 ls []) := by
    intro n
    induction n with
    | zero => intro H locs ls v2_3 hI hok g2_0 g2_1 hl hme; exfalso; obtain ⟨⟨o17, o18⟩, ⟨o19, o20⟩, ⟨o21, o22⟩, ⟨o23, o24⟩, ⟨o25, o26⟩, ⟨o27, o28⟩, ⟨o29, o30⟩, ⟨o31, o32⟩, -⟩ := id hok; omega
    | succ n ih =>
      intro H locs ls v2_3 hI hok g2_0 g2_1 hl hme
      obtain ⟨⟨o33, o34⟩, ⟨o35, o36⟩, ⟨o37, o38⟩, ⟨o39, o40⟩, ⟨o41, o42⟩, ⟨o43, o44⟩, ⟨o45, o46⟩, ⟨o47, o48⟩, -⟩ := id hok
      refine lv_iload_n hx hb d_Mo_copy_2 rfl (lv_at hl 3 rfl) ?_
      refine lv_iload_n hx hb d_Mo_copy_3 rfl (lv_at hl 2 rfl) ?_
      refine sn_icmp_ge (tgt := 19) hx hb d_Mo_copy_4 (by decide) (fun b49 => ?_) (fun b49 => ?_)
      · subst hZ
        exact tz_ret (W.vret hx hb hr (fun t ht hW => ⟨⟨fun v9 hv9 => by cases hv9; exact (⟨rfl, hok, by rw [ht]; exact hI.1⟩), fun x9 hx9 => (by cases hx9)⟩, hI.2.F ht⟩) hI.2.2.2 d_Mo_copy_19)
      · refine lv_aload_n hx hb d_Mo_copy_7 rfl (lv_at hl 1 rfl) ?_
        refine lv_iload_n hx hb d_Mo_copy_8 rfl (lv_at hl 3 rfl) ?_
        refine lv_aload_n hx hb d_Mo_copy_9 rfl (lv_at hl 0 rfl) ?_
        refine lv_iload_n hx hb d_Mo_copy_10 rfl (lv_at hl 3 rfl) ?_
        refine sv_ialdr hx hb hK hI 14 kM_14 (by omega) (by omega) d_Mo_copy_11 (fun z50 hz50a hz50b => ?_)
        refine sv_iastr hx hb hK (sh_in adM_map hAC) hI 7 kM_7 (by omega) (by omega) (by omega) (by omega) pM_7 d_Mo_copy_12 (fun H locs hI => ?_)
        refine sn_iinc (k := 3) hx hb d_Mo_copy_13 hl rfl (by decide) (by decide) (by omega) (by omega) (fun ls z51 hz51 hl => ?_)
        have hl : lv_has ls 4 [(3, .int z51), (0, .ref (a 14)), (1, .ref (a 7)), (2, .int x2)] := hl
        refine lv_goto (tgt := 2) hx hb d_Mo_copy_16 (by decide) ?_
        exact ih _ _ _ z51 hI hok (by omega) (by omega) (lv_sub hl [1, 2, 3, 0] rfl) (by omega)
  refine sn_iconst hx hb d_Mo_copy_0 (by decide) (fun z52 hz52 => ?_)
  refine lv_istore_n (lv' := [(3, .int z52), (0, .ref (a 14)), (1, .ref (a 7)), (2, .int x2)]) hx hb d_Mo_copy_1 rfl hl (by decide) rfl (fun ls hl => ?_)
  exact j2 166 _ _ _ z52 hI hok (by omega) (by omega) (lv_sub hl [1, 2, 3, 0] rfl) (by omega)
abbrev q_Mo_branch (dC : Nat → ClassId) (dI : Nat → Nat → Nat) (cI cJ : ClassId) (a : Nat → Nat) (th tr dp zi co sh lt ts : Int) (mf : Nat → Int32) (x1 : Int32) : Outcome → State → Prop := fun o t => (∀ v, o = .returned v → ((∃ (tr_ dp_ zi_ : Int), v = none ∧ okM th tr_ dp_ zi_ co sh lt ts mf ∧ (1 ≤ tr_) ∧ sh_I (dC, dI) vcl cI cJ (gsM a th tr_ dp_ zi_ co sh lt ts mf) t.heap) ∨ (∃ (dp_ zi_ : Int) (mf_ : Nat → Int32), v = none ∧ okM th tr dp_ zi_ co sh lt ts mf_ ∧ (tr ≤ 0) ∧ sh_I (dC, dI) vcl cI cJ (gsM a th tr dp_ zi_ co sh lt ts mf_) t.heap))) ∧ (∀ x, o = .threw x → (False))
def rm_Mo_branch : Room := { frames := 6, cells := 0, slots := 0, locals := 132 }
set_option maxHeartbeats 4000000 in
set_option maxRecDepth 100000 in
theorem c_Mo_branch (l : Launch) (hfl : l.flags = pinnedFlags ++ [noTraceFlag]) (dC : Nat → ClassId) (dI : Nat → Nat → Nat) (cI cJ : ClassId) (a : Nat → Nat) (sz : Nat) (th tr dp zi co sh lt ts : Int) (mf : Nat → Int32) (x1 : Int32) (hok : okM th tr dp zi co sh lt ts mf) (hp0 : 0 ≤ x1.toInt) (hp1 : x1.toInt ≤ 1) : tz_Met l ⟨"StoryMachineModel", "branch", "(Z)V"⟩ tw_tbl rm_Mo_branch (tzP (dC, dI) vcl cI cJ (gsM a th tr dp zi co sh lt ts mf) a (adM a) [.ref (a 0), .int x1] sz) (tq_Q (q_Mo_branch dC dI cI cJ a th tr dp zi co sh lt ts mf x1) (ga (adM a) sz)) 0 0 0 0 (ga (adM a) sz) := by
  refine tz_ofW (cc := prog_13_method_45_code) (maxL := 2) (ret := none) (by decide) (tx_isM mw_1288) ?_
  intro p e s m args below meth c s₁ B hml hv
  obtain ⟨rfl, hsz, hI0, hK, hst0⟩ := hv
  have hx := B.exec
  have hb := B.bytes
  have hr := B.returns
  have hts := atoms_spec (ws := tw_tbl) B.pre
  have hown : s.vm.findClass "StoryMachineModel" = some m.cls := findClass_of_methodNamed B.named
  have hlocks := B.notSynchronized
  subst hsz
  have hst := fun (H : Heap) (locs : List Loc) (hS : va_S (ga (adM a) s.heap.size) s.heap H locs) (U : State) (hU : U.heap = H) (hW : s.WarmedH U.vm) => zS_all adM_map hI0 hst0 hS hU hW
  have hAC : ∀ q ∈ adM a, ga (adM a) s.heap.size q := fun q h => Or.inl h
  have hA0 : ∀ q, s.heap.size ≤ q → ga (adM a) s.heap.size q := fun q h => Or.inr h
  have hI : sI (dC, dI) vcl cI cJ (gsM a th tr dp zi co sh lt ts mf) (ga (adM a) s.heap.size) s.heap s.heap [] := ⟨hI0, va_S.rf⟩
  clear hI0 hst0
  have hl := lv_entry ([.ref (a 0), .int x1]) (n := 2) (Nat.le_of_ble_eq_true rfl)
  rw [lg_entry_eq]
  generalize (lg_sl ([.ref (a 0), .int x1]) ++ List.replicate (2 - (lg_sl ([.ref (a 0), .int x1])).length) Slot.unset).toArray = ls at hl ⊢
  have hl : lv_has ls 2 [(0, .ref (a 0)), (1, .int x1)] := hl
  generalize hZ : tz_MQ below (tq_Q (q_Mo_branch dC dI cI cJ a th tr dp zi co sh lt ts mf x1) (ga (adM a) s.heap.size)) ([.ref (a 0), .int x1] : List Value).toArray s 0 0 0 0 (ga (adM a) s.heap.size) = Z
  obtain ⟨A, hAe⟩ : ∃ A, A = ga (adM a) s.heap.size := ⟨_, rfl⟩
  rw [← hAe] at hst hAC hA0 hI hZ
  refine sv_start hI (fun H locs hI => ?_)
  obtain ⟨⟨o1, o2⟩, ⟨o3, o4⟩, ⟨o5, o6⟩, ⟨o7, o8⟩, ⟨o9, o10⟩, ⟨o11, o12⟩, ⟨o13, o14⟩, ⟨o15, o16⟩, -⟩ := id hok
  have gx1 := sn_rng x1
  have j31z : ∀ (H : Heap) (locs : List Loc) (ls : Array Slot), sI (dC, dI) vcl cI cJ (gsM a th tr dp zi co sh lt ts mf) A s.heap H locs → okM th tr dp zi co sh lt ts mf → tr ≤ 0 → lv_has ls 2 [(0, .ref (a 0)), (1, .int x1)] → W p l e (headSpec tw_tbl rm_Mo_branch).room s m ([.ref (a 0), .int x1] : List Value).toArray below meth c H locs 0 0 Z (F0 m 31 ls []) := by
    intro H locs ls hI hok g31_0 hl
    obtain ⟨⟨o17, o18⟩, ⟨o19, o20⟩, ⟨o21, o22⟩, ⟨o23, o24⟩, ⟨o25, o26⟩, ⟨o27, o28⟩, ⟨o29, o30⟩, ⟨o31, o32⟩, -⟩ := id hok
    refine lv_aload_n hx hb d_Mo_branch_31 rfl (lv_at hl 0 rfl) ?_
    refine lv_aload_n hx hb d_Mo_branch_32 rfl (lv_at hl 0 rfl) ?_
    refine sv_get (C := "StoryMachineModel") (T := T_Mo) (N := 51) hx hb hts in_Mo hown hK hI 0 kM_0 rfl 42 (by decide) (hts _ mw_1105) rfl d_Mo_branch_33 (fun z33 hz33a hz33b => ?_)
    refine tz_call (A1 := ga (adM a) H.size) (tz_runV (C := "StoryMachineModel") (As := [.int z33]) (rest := []) ⟨hx, hb, hml, hown, hts⟩ (c_Mo_leave l hfl dC dI cI cJ a H.size th tr dp zi co sh lt ts mf z33 hok) (tx_cb (n := 1) hts rfl rfl ⟨Nat.le_of_ble_eq_true rfl, Nat.le_of_ble_eq_true rfl⟩ (tx_code.of (hts _ mw_1292)) (hts _ mw_12) (by decide +kernel) (hts _ mw_1289)) (hts _ mw_1291) (hts _ ms_Mo_leave) ⟨tz_blind, sv_recv (q0 := 0) hts in_Mo hK hI kM_0 rfl, fun U hU hW => ⟨rfl, by rw [hU], by rw [hU]; exact hI.1, va_K.moved hW.alike hK, hst _ _ hI.2 U hU hW⟩⟩ rfl rfl hl.1 rfl (lv_room (Nat.le_of_ble_eq_true rfl)) d_Mo_branch_36 ⟨Nat.le_of_ble_eq_true rfl, Nat.le_of_ble_eq_true rfl⟩) hI.2 (fun q _ h => ga_sub hAC hA0 hI.2 q h) (ga_sub hAC hA0 hI.2) (fun v t H1 locs1 ht hWt hpost _ _ hS => ?_) (fun x t H1 locs1 ht hWt hpost _ _ hS => (hpost.2 x rfl).elim)
    rcases hpost.1 _ rfl with ⟨t_tr34, t_dp35, t_zi36, hv, c37, c37_0, hI1⟩ | ⟨t_dp38, t_zi39, f_mf40, hv, c41, c41_0, c41_1, c41_2, hI1⟩
    · cases hv
      have hI : sI (dC, dI) vcl cI cJ (gsM a th t_tr34 t_dp35 t_zi36 co sh lt ts mf) A s.heap H1 locs1 := ⟨by rw [← ht]; exact hI1, hS⟩
      obtain ⟨-, ⟨o42, o43⟩, ⟨o44, o45⟩, ⟨o46, o47⟩, -, -, -, -, -⟩ := id c37
      clear hpost hI1 hS ht hWt
      revert hI; generalize H1 = H; generalize locs1 = locs; intro hI
      refine lv_goto (tgt := 57) hx hb d_Mo_branch_39 (by decide) ?_
      subst hZ
      exact tz_ret (W.vret hx hb hr (fun t ht hW => ⟨⟨fun v9 hv9 => by cases hv9; exact (Or.inl ⟨t_tr34, t_dp35, t_zi36, rfl, c37, by omega, by rw [ht]; exact hI.1⟩), fun x9 hx9 => (by cases hx9)⟩, hI.2.F ht⟩) hI.2.2.2 d_Mo_branch_57)
    · cases hv
      have hI : sI (dC, dI) vcl cI cJ (gsM a th tr t_dp38 t_zi39 co sh lt ts f_mf40) A s.heap H1 locs1 := ⟨by rw [← ht]; exact hI1, hS⟩
      obtain ⟨-, -, ⟨o48, o49⟩, ⟨o50, o51⟩, -, -, -, -, -⟩ := id c41
      clear hpost hI1 hS ht hWt
      revert hI; generalize H1 = H; generalize locs1 = locs; intro hI
      refine lv_goto (tgt := 57) hx hb d_Mo_branch_39 (by decide) ?_
      subst hZ
      exact tz_ret (W.vret hx hb hr (fun t ht hW => ⟨⟨fun v9 hv9 => by cases hv9; exact (Or.inr (⟨t_dp38, t_zi39, f_mf40, rfl, c41, by omega, by rw [ht]; exact hI.1⟩)), fun x9 hx9 => (by cases hx9)⟩, hI.2.F ht⟩) hI.2.2.2 d_Mo_branch_57)
  refine lv_aload_n hx hb d_Mo_branch_0 rfl (lv_at hl 0 rfl) ?_
  refine sv_gete (C := "StoryMachineModel") (T := T_Mo) (N := 51) hx hb hts in_Mo hown hK hI 0 kM_0 rfl 25 (by decide) (hts _ mw_1088) rfl d_Mo_branch_1 (fun z52 hz52 => ?_)
  refine sn_if_gt (tgt := 15) hx hb d_Mo_branch_4 (by decide) (fun b53 => ?_) (fun b53 => ?_)
  · subst hZ
    exact tz_ret (W.vret hx hb hr (fun t ht hW => ⟨⟨fun v9 hv9 => by cases hv9; exact (Or.inl ⟨tr, dp, zi, rfl, hok, by omega, by rw [ht]; exact hI.1⟩), fun x9 hx9 => (by cases hx9)⟩, hI.2.F ht⟩) hI.2.2.2 d_Mo_branch_15)
  · refine lv_iload_n hx hb d_Mo_branch_7 rfl (lv_at hl 1 rfl) ?_
    refine lv_aload_n hx hb d_Mo_branch_8 rfl (lv_at hl 0 rfl) ?_
    refine sv_get (C := "StoryMachineModel") (T := T_Mo) (N := 51) hx hb hts in_Mo hown hK hI 0 kM_0 rfl 41 (by decide) (hts _ mw_1104) rfl d_Mo_branch_9 (fun z54 hz54a hz54b => ?_)
    refine sn_icmp_eq (tgt := 16) hx hb d_Mo_branch_12 (by decide) (fun b55 => ?_) (fun b55 => ?_)
    · refine lv_aload_n hx hb d_Mo_branch_16 rfl (lv_at hl 0 rfl) ?_
      refine sv_get (C := "StoryMachineModel") (T := T_Mo) (N := 51) hx hb hts in_Mo hown hK hI 0 kM_0 rfl 42 (by decide) (hts _ mw_1105) rfl d_Mo_branch_17 (fun z56 hz56a hz56b => ?_)
      refine sn_if_eq (tgt := 31) hx hb d_Mo_branch_20 (by decide) (fun b57 => ?_) (fun b57 => ?_)
      · exact j31z _ _ _  hI hok (by omega) (lv_sub hl [0, 1] rfl)
      · refine lv_aload_n hx hb d_Mo_branch_23 rfl (lv_at hl 0 rfl) ?_
        refine sv_get (C := "StoryMachineModel") (T := T_Mo) (N := 51) hx hb hts in_Mo hown hK hI 0 kM_0 rfl 42 (by decide) (hts _ mw_1105) rfl d_Mo_branch_24 (fun z58 hz58a hz58b => ?_)
        refine sn_iconst hx hb d_Mo_branch_27 (by decide) (fun z59 hz59 => ?_)
        refine sn_icmp_ne (tgt := 42) hx hb d_Mo_branch_28 (by decide) (fun b60 => ?_) (fun b60 => ?_)
        · refine lv_aload_n hx hb d_Mo_branch_42 rfl (lv_at hl 0 rfl) ?_
          refine lv_aload_n hx hb d_Mo_branch_43 rfl (lv_at hl 0 rfl) ?_
          refine sv_get (C := "StoryMachineModel") (T := T_Mo) (N := 51) hx hb hts in_Mo hown hK hI 0 kM_0 rfl 43 (by decide) (hts _ mw_1106) rfl d_Mo_branch_44 (fun z61 hz61a hz61b => ?_)
          refine lv_aload_n hx hb d_Mo_branch_47 rfl (lv_at hl 0 rfl) ?_
          refine sv_get (C := "StoryMachineModel") (T := T_Mo) (N := 51) hx hb hts in_Mo hown hK hI 0 kM_0 rfl 42 (by decide) (hts _ mw_1105) rfl d_Mo_branch_48 (fun z62 hz62a hz62b => ?_)
          refine sn_iaddT hx hb d_Mo_branch_51 (fun z63 hz63a hz63b => ?_)
          refine sn_iconst hx hb d_Mo_branch_52 (by decide) (fun z64 hz64 => ?_)
          refine sn_isubT hx hb d_Mo_branch_53 (fun z65 hz65a hz65b => ?_)
          refine sv_put (C := "StoryMachineModel") (T := T_Mo) (N := 51) (ty := .int) hx hb hts in_Mo t_Mo tk_Mo nm_Mo hown hK (sh_in adM_map hAC) hI 0 kM_0 rfl 28 (by decide) (hts _ mw_1091) rfl (by decide +kernel) rfl rfl (Nat.le_of_ble_eq_true rfl) (by omega) (by omega) pM_0_28 d_Mo_branch_54 (fun H locs hI => ?_)
          subst hZ
          exact tz_ret (W.vret hx hb hr (fun t ht hW => ⟨⟨fun v9 hv9 => by cases hv9; exact (Or.inr (⟨dp, zi, mf, rfl, hok, by omega, by rw [ht]; exact hI.1⟩)), fun x9 hx9 => (by cases hx9)⟩, hI.2.F ht⟩) hI.2.2.2 d_Mo_branch_57)
        · exact j31z _ _ _  hI hok (by omega) (lv_sub hl [0, 1] rfl)
    · subst hZ
      exact tz_ret (W.vret hx hb hr (fun t ht hW => ⟨⟨fun v9 hv9 => by cases hv9; exact (Or.inr (⟨dp, zi, mf, rfl, hok, by omega, by rw [ht]; exact hI.1⟩)), fun x9 hx9 => (by cases hx9)⟩, hI.2.F ht⟩) hI.2.2.2 d_Mo_branch_15)
