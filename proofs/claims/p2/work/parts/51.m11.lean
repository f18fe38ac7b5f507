abbrev q_Js_indexOf2 (dC : Nat → ClassId) (dI : Nat → Nat → Nat) (cI cJ : ClassId) (a : Nat → Nat) (he dp co li op wd tl lc fo : Int) (sf lf nf : Nat → Int32) (x1 : Int32) (x2 : Int32) : Outcome → State → Prop := fun o t => (∀ v, o = .returned v → ((∃ (z : Int32), v = some (.int z) ∧ okC he dp co li op wd tl lc fo sf lf nf ∧ ((-1) ≤ z.toInt) ∧ (z.toInt ≤ 23) ∧ sh_I (dC, dI) vcl cI cJ (gsC a he dp co li op wd tl lc fo sf lf nf) t.heap))) ∧ (∀ x, o = .threw x → (False))
def rm_Js_indexOf2 : Room := { frames := 2, cells := 0, slots := 0, locals := 83 }
set_option maxHeartbeats 4000000 in
set_option maxRecDepth 100000 in
theorem c_Js_indexOf2 (l : Launch) (hfl : l.flags = pinnedFlags ++ [noTraceFlag]) (dC : Nat → ClassId) (dI : Nat → Nat → Nat) (cI cJ : ClassId) (a : Nat → Nat) (sz : Nat) (he dp co li op wd tl lc fo : Int) (sf lf nf : Nat → Int32) (x1 : Int32) (x2 : Int32) (hok : okC he dp co li op wd tl lc fo sf lf nf) (hp0 : 0 ≤ x2.toInt) (hp1 : x2.toInt ≤ 0) : tz_Met l ⟨"java/lang/String", "indexOf", "(II)I"⟩ tw_tbl rm_Js_indexOf2 (tzP (dC, dI) vcl cI cJ (gsC a he dp co li op wd tl lc fo sf lf nf) a (adC a) [.ref (a 105), .int x1, .int x2] sz) (tq_Q (q_Js_indexOf2 dC dI cI cJ a he dp co li op wd tl lc fo sf lf nf x1 x2) (ga (adC a) sz)) 0 0 0 0 (ga (adC a) sz) := by
  refine tz_ofW (cc := prog_22_method_80_code) (maxL := 3) (ret := (some .int)) (by decide) (tx_isM mw_931) ?_
  intro p e s m args below meth c s₁ B hml hv
  obtain ⟨rfl, hsz, hI0, hK, hst0⟩ := hv
  have hx := B.exec
  have hb := B.bytes
  have hr := B.returns
  have hts := atoms_spec (ws := tw_tbl) B.pre
  have hown : s.vm.findClass "java/lang/String" = some m.cls := findClass_of_methodNamed B.named
  have hlocks := B.notSynchronized
  subst hsz
  have hst := fun (H : Heap) (locs : List Loc) (hS : va_S (ga (adC a) s.heap.size) s.heap H locs) (U : State) (hU : U.heap = H) (hW : s.WarmedH U.vm) => zS_all adC_map hI0 hst0 hS hU hW
  have hAC : ∀ q ∈ adC a, ga (adC a) s.heap.size q := fun q h => Or.inl h
  have hA0 : ∀ q, s.heap.size ≤ q → ga (adC a) s.heap.size q := fun q h => Or.inr h
  have hI : sI (dC, dI) vcl cI cJ (gsC a he dp co li op wd tl lc fo sf lf nf) (ga (adC a) s.heap.size) s.heap s.heap [] := ⟨hI0, va_S.rf⟩
  clear hI0 hst0
  have hl := lv_entry ([.ref (a 105), .int x1, .int x2]) (n := 3) (Nat.le_of_ble_eq_true rfl)
  rw [lg_entry_eq]
  generalize (lg_sl ([.ref (a 105), .int x1, .int x2]) ++ List.replicate (3 - (lg_sl ([.ref (a 105), .int x1, .int x2])).length) Slot.unset).toArray = ls at hl ⊢
  have hl : lv_has ls 3 [(0, .ref (a 105)), (1, .int x1), (2, .int x2)] := hl
  generalize hZ : tz_MQ below (tq_Q (q_Js_indexOf2 dC dI cI cJ a he dp co li op wd tl lc fo sf lf nf x1 x2) (ga (adC a) s.heap.size)) ([.ref (a 105), .int x1, .int x2] : List Value).toArray s 0 0 0 0 (ga (adC a) s.heap.size) = Z
  obtain ⟨A, hAe⟩ : ∃ A, A = ga (adC a) s.heap.size := ⟨_, rfl⟩
  rw [← hAe] at hst hAC hA0 hI hZ
  refine sv_start hI (fun H locs hI => ?_)
  obtain ⟨⟨o1, o2⟩, ⟨o3, o4⟩, ⟨o5, o6⟩, ⟨o7, o8⟩, ⟨o9, o10⟩, ⟨o11, o12⟩, ⟨o13, o14⟩, ⟨o15, o16⟩, ⟨o17, o18⟩, o19, -, -⟩ := id hok
  have gx1 := sn_rng x1
  have gx2 := sn_rng x2
  refine lv_aload_n hx hb d_Js_indexOf2_0 rfl (lv_at hl 0 rfl) ?_
  refine tz_call (A1 := ga (adC a) H.size) (tz_runV (C := "java/lang/String") (As := []) (rest := []) ⟨hx, hb, hml, hown, hts⟩ (c_Js_isLatin10 l hfl dC dI cI cJ a H.size he dp co li op wd tl lc fo sf lf nf  hok) (tx_cb (n := 0) hts rfl rfl ⟨Nat.le_of_ble_eq_true rfl, Nat.le_of_ble_eq_true rfl⟩ (tx_code.of (hts _ mw_666)) (hts _ mw_19) (by decide +kernel) (hts _ mw_663)) (hts _ mw_664) (hts _ mw_665) ⟨tz_blind, sb_recv (hst _ [] va_S.rf s rfl (State.WarmedH.refl s)) hAe hI.2, fun U hU hW => ⟨rfl, by rw [hU], by rw [hU]; exact hI.1, va_K.moved hW.alike hK, hst _ _ hI.2 U hU hW⟩⟩ rfl rfl hl.1 rfl (lv_room (Nat.le_of_ble_eq_true rfl)) d_Js_indexOf2_1 ⟨Nat.le_of_ble_eq_true rfl, Nat.le_of_ble_eq_true rfl⟩) hI.2 (fun q _ h => ga_sub hAC hA0 hI.2 q h) (ga_sub hAC hA0 hI.2) (fun v t H1 locs1 ht hWt hpost _ _ hS => ?_) (fun x t H1 locs1 ht hWt hpost _ _ hS => (hpost.2 x rfl).elim)
  rcases hpost.1 _ rfl with ⟨z20, hv, c21, c21_0, c21_1, hI1⟩
  cases hv
  have hI : sI (dC, dI) vcl cI cJ (gsC a he dp co li op wd tl lc fo sf lf nf) A s.heap H1 locs1 := ⟨by rw [← ht]; exact hI1, hS⟩
  clear hpost hI1 hS ht hWt
  revert hI; generalize H1 = H; generalize locs1 = locs; intro hI
  refine sn_if_eq (tgt := 23) hx hb d_Js_indexOf2_4 (by decide) (fun b22 => ?_) (fun b22 => ?_)
  · omega
  · refine lv_aload_n hx hb d_Js_indexOf2_7 rfl (lv_at hl 0 rfl) ?_
    refine sb_value hx hb (hst _ [] va_S.rf s rfl (State.WarmedH.refl s)) hAe hI.2 hown (hts _ mw_1551) d_Js_indexOf2_8 ?_
    refine lv_iload_n hx hb d_Js_indexOf2_11 rfl (lv_at hl 1 rfl) ?_
    refine lv_iload_n hx hb d_Js_indexOf2_12 rfl (lv_at hl 2 rfl) ?_
    refine lv_aload_n hx hb d_Js_indexOf2_13 rfl (lv_at hl 0 rfl) ?_
    refine tz_call (A1 := ga (adC a) H.size) (tz_runV (C := "java/lang/String") (As := []) (rest := [.int x2, .int x1, .ref (a 106)]) ⟨hx, hb, hml, hown, hts⟩ (c_Js_length0 l hfl dC dI cI cJ a H.size he dp co li op wd tl lc fo sf lf nf  c21) (tx_cb (n := 0) hts rfl rfl ⟨Nat.le_of_ble_eq_true rfl, Nat.le_of_ble_eq_true rfl⟩ (tx_code.of (hts _ mw_935)) (hts _ mw_19) (by decide +kernel) (hts _ mw_932)) (hts _ mw_933) (hts _ mw_934) ⟨tz_blind, sb_recv (hst _ [] va_S.rf s rfl (State.WarmedH.refl s)) hAe hI.2, fun U hU hW => ⟨rfl, by rw [hU], by rw [hU]; exact hI.1, va_K.moved hW.alike hK, hst _ _ hI.2 U hU hW⟩⟩ rfl rfl hl.1 rfl (lv_room (Nat.le_of_ble_eq_true rfl)) d_Js_indexOf2_14 ⟨Nat.le_of_ble_eq_true rfl, Nat.le_of_ble_eq_true rfl⟩) hI.2 (fun q _ h => ga_sub hAC hA0 hI.2 q h) (ga_sub hAC hA0 hI.2) (fun v t H1 locs1 ht hWt hpost _ _ hS => ?_) (fun x t H1 locs1 ht hWt hpost _ _ hS => (hpost.2 x rfl).elim)
    rcases hpost.1 _ rfl with ⟨z23, hv, c24, c24_0, c24_1, hI1⟩
    cases hv
    have hI : sI (dC, dI) vcl cI cJ (gsC a he dp co li op wd tl lc fo sf lf nf) A s.heap H1 locs1 := ⟨by rw [← ht]; exact hI1, hS⟩
    clear hpost hI1 hS ht hWt
    revert hI; generalize H1 = H; generalize locs1 = locs; intro hI
    refine tz_call (A1 := ga (adC a) H.size) (tz_runS (As := [.ref (a 106), .int x1, .int x2, .int z23]) (rest := []) ⟨hx, hb, hml, hown, hts⟩ (c_Jl_indexOf4 l hfl dC dI cI cJ a H.size he dp co li op wd tl lc fo sf lf nf x1 x2 z23 c24 (by omega) (by omega)) (tx_cb (n := 4) hts rfl rfl ⟨Nat.le_of_ble_eq_true rfl, Nat.le_of_ble_eq_true rfl⟩ (tx_code.of (hts _ mw_942)) (hts _ mw_20) (by decide +kernel) (hts _ mw_940)) (hts _ mw_941) ⟨tz_blind, fun U hU hW => ⟨rfl, by rw [hU], by rw [hU]; exact hI.1, va_K.moved hW.alike hK, hst _ _ hI.2 U hU hW⟩⟩ rfl rfl hl.1 rfl (lv_room (Nat.le_of_ble_eq_true rfl)) d_Js_indexOf2_17 ⟨Nat.le_of_ble_eq_true rfl, Nat.le_of_ble_eq_true rfl⟩) hI.2 (fun q _ h => ga_sub hAC hA0 hI.2 q h) (ga_sub hAC hA0 hI.2) (fun v t H1 locs1 ht hWt hpost _ _ hS => ?_) (fun x t H1 locs1 ht hWt hpost _ _ hS => (hpost.2 x rfl).elim)
    rcases hpost.1 _ rfl with ⟨z25, hv, c26, c26_0, c26_1, hI1⟩
    cases hv
    have hI : sI (dC, dI) vcl cI cJ (gsC a he dp co li op wd tl lc fo sf lf nf) A s.heap H1 locs1 := ⟨by rw [← ht]; exact hI1, hS⟩
    clear hpost hI1 hS ht hWt
    revert hI; generalize H1 = H; generalize locs1 = locs; intro hI
    refine lv_goto (tgt := 36) hx hb d_Js_indexOf2_20 (by decide) ?_
    subst hZ
    exact tz_ret (W.iret (v := z25) hx hb hr (fun t ht hW => ⟨⟨fun v9 hv9 => by cases hv9; exact (⟨z25, rfl, c26, by omega, by omega, by rw [ht]; exact hI.1⟩), fun x9 hx9 => (by cases hx9)⟩, hI.2.F ht⟩) hI.2.2.2 d_Js_indexOf2_36)
abbrev q_Js_indexOf1 (dC : Nat → ClassId) (dI : Nat → Nat → Nat) (cI cJ : ClassId) (a : Nat → Nat) (he dp co li op wd tl lc fo : Int) (sf lf nf : Nat → Int32) (x1 : Int32) : Outcome → State → Prop := fun o t => (∀ v, o = .returned v → ((∃ (z : Int32), v = some (.int z) ∧ okC he dp co li op wd tl lc fo sf lf nf ∧ ((-1) ≤ z.toInt) ∧ (z.toInt ≤ 23) ∧ sh_I (dC, dI) vcl cI cJ (gsC a he dp co li op wd tl lc fo sf lf nf) t.heap))) ∧ (∀ x, o = .threw x → (False))
def rm_Js_indexOf1 : Room := { frames := 3, cells := 0, slots := 0, locals := 105 }
set_option maxHeartbeats 4000000 in
set_option maxRecDepth 100000 in
theorem c_Js_indexOf1 (l : Launch) (hfl : l.flags = pinnedFlags ++ [noTraceFlag]) (dC : Nat → ClassId) (dI : Nat → Nat → Nat) (cI cJ : ClassId) (a : Nat → Nat) (sz : Nat) (he dp co li op wd tl lc fo : Int) (sf lf nf : Nat → Int32) (x1 : Int32) (hok : okC he dp co li op wd tl lc fo sf lf nf) : tz_Met l ⟨"java/lang/String", "indexOf", "(I)I"⟩ tw_tbl rm_Js_indexOf1 (tzP (dC, dI) vcl cI cJ (gsC a he dp co li op wd tl lc fo sf lf nf) a (adC a) [.ref (a 105), .int x1] sz) (tq_Q (q_Js_indexOf1 dC dI cI cJ a he dp co li op wd tl lc fo sf lf nf x1) (ga (adC a) sz)) 0 0 0 0 (ga (adC a) sz) := by
  refine tz_ofW (cc := prog_22_method_79_code) (maxL := 2) (ret := (some .int)) (by decide) (tx_isM mw_927) ?_
  intro p e s m args below meth c s₁ B hml hv
  obtain ⟨rfl, hsz, hI0, hK, hst0⟩ := hv
  have hx := B.exec
  have hb := B.bytes
  have hr := B.returns
  have hts := atoms_spec (ws := tw_tbl) B.pre
  have hown : s.vm.findClass "java/lang/String" = some m.cls := findClass_of_methodNamed B.named
  have hlocks := B.notSynchronized
  subst hsz
  have hst := fun (H : Heap) (locs : List Loc) (hS : va_S (ga (adC a) s.heap.size) s.heap H locs) (U : State) (hU : U.heap = H) (hW : s.WarmedH U.vm) => zS_all adC_map hI0 hst0 hS hU hW
  have hAC : ∀ q ∈ adC a, ga (adC a) s.heap.size q := fun q h => Or.inl h
  have hA0 : ∀ q, s.heap.size ≤ q → ga (adC a) s.heap.size q := fun q h => Or.inr h
  have hI : sI (dC, dI) vcl cI cJ (gsC a he dp co li op wd tl lc fo sf lf nf) (ga (adC a) s.heap.size) s.heap s.heap [] := ⟨hI0, va_S.rf⟩
  clear hI0 hst0
  have hl := lv_entry ([.ref (a 105), .int x1]) (n := 2) (Nat.le_of_ble_eq_true rfl)
  rw [lg_entry_eq]
  generalize (lg_sl ([.ref (a 105), .int x1]) ++ List.replicate (2 - (lg_sl ([.ref (a 105), .int x1])).length) Slot.unset).toArray = ls at hl ⊢
  have hl : lv_has ls 2 [(0, .ref (a 105)), (1, .int x1)] := hl
  generalize hZ : tz_MQ below (tq_Q (q_Js_indexOf1 dC dI cI cJ a he dp co li op wd tl lc fo sf lf nf x1) (ga (adC a) s.heap.size)) ([.ref (a 105), .int x1] : List Value).toArray s 0 0 0 0 (ga (adC a) s.heap.size) = Z
  obtain ⟨A, hAe⟩ : ∃ A, A = ga (adC a) s.heap.size := ⟨_, rfl⟩
  rw [← hAe] at hst hAC hA0 hI hZ
  refine sv_start hI (fun H locs hI => ?_)
  obtain ⟨⟨o1, o2⟩, ⟨o3, o4⟩, ⟨o5, o6⟩, ⟨o7, o8⟩, ⟨o9, o10⟩, ⟨o11, o12⟩, ⟨o13, o14⟩, ⟨o15, o16⟩, ⟨o17, o18⟩, o19, -, -⟩ := id hok
  have gx1 := sn_rng x1
  refine lv_aload_n hx hb d_Js_indexOf1_0 rfl (lv_at hl 0 rfl) ?_
  refine lv_iload_n hx hb d_Js_indexOf1_1 rfl (lv_at hl 1 rfl) ?_
  refine sn_iconst hx hb d_Js_indexOf1_2 (by decide) (fun z20 hz20 => ?_)
  refine tz_call (A1 := ga (adC a) H.size) (tz_runV (C := "java/lang/String") (As := [.int x1, .int z20]) (rest := []) ⟨hx, hb, hml, hown, hts⟩ (c_Js_indexOf2 l hfl dC dI cI cJ a H.size he dp co li op wd tl lc fo sf lf nf x1 z20 hok (by omega) (by omega)) (tx_cb (n := 2) hts rfl rfl ⟨Nat.le_of_ble_eq_true rfl, Nat.le_of_ble_eq_true rfl⟩ (tx_code.of (hts _ mw_931)) (hts _ mw_19) (by decide +kernel) (hts _ mw_928)) (hts _ mw_929) (hts _ mw_930) ⟨tz_blind, sb_recv (hst _ [] va_S.rf s rfl (State.WarmedH.refl s)) hAe hI.2, fun U hU hW => ⟨rfl, by rw [hU], by rw [hU]; exact hI.1, va_K.moved hW.alike hK, hst _ _ hI.2 U hU hW⟩⟩ rfl rfl hl.1 rfl (lv_room (Nat.le_of_ble_eq_true rfl)) d_Js_indexOf1_3 ⟨Nat.le_of_ble_eq_true rfl, Nat.le_of_ble_eq_true rfl⟩) hI.2 (fun q _ h => ga_sub hAC hA0 hI.2 q h) (ga_sub hAC hA0 hI.2) (fun v t H1 locs1 ht hWt hpost _ _ hS => ?_) (fun x t H1 locs1 ht hWt hpost _ _ hS => (hpost.2 x rfl).elim)
  rcases hpost.1 _ rfl with ⟨z21, hv, c22, c22_0, c22_1, hI1⟩
  cases hv
  have hI : sI (dC, dI) vcl cI cJ (gsC a he dp co li op wd tl lc fo sf lf nf) A s.heap H1 locs1 := ⟨by rw [← ht]; exact hI1, hS⟩
  clear hpost hI1 hS ht hWt
  revert hI; generalize H1 = H; generalize locs1 = locs; intro hI
  subst hZ
  exact tz_ret (W.iret (v := z21) hx hb hr (fun t ht hW => ⟨⟨fun v9 hv9 => by cases hv9; exact (⟨z21, rfl, c22, by omega, by omega, by rw [ht]; exact hI.1⟩), fun x9 hx9 => (by cases hx9)⟩, hI.2.F ht⟩) hI.2.2.2 d_Js_indexOf1_6)
abbrev q_Di_addCharacter (dC : Nat → ClassId) (dI : Nat → Nat → Nat) (cI cJ : ClassId) (a : Nat → Nat) (he dp co li op wd tl lc fo : Int) (sf lf nf : Nat → Int32) (x1 : Int32) : Outcome → State → Prop := fun o t => (∀ v, o = .returned v → ((∃ (lc_ : Int), v = none ∧ okC he dp co li op wd tl lc_ fo sf lf nf ∧ (1 ≤ lc_) ∧ sh_I (dC, dI) vcl cI cJ (gsC a he dp co li op wd tl lc_ fo sf lf nf) t.heap))) ∧ (∀ x, o = .threw x → (False))
def rm_Di_addCharacter : Room := { frames := 4, cells := 0, slots := 0, locals := 126 }
set_option maxHeartbeats 4000000 in
set_option maxRecDepth 100000 in
theorem c_Di_addCharacter (l : Launch) (hfl : l.flags = pinnedFlags ++ [noTraceFlag]) (dC : Nat → ClassId) (dI : Nat → Nat → Nat) (cI cJ : ClassId) (a : Nat → Nat) (sz : Nat) (he dp co li op wd tl lc fo : Int) (sf lf nf : Nat → Int32) (x1 : Int32) (hok : okC he dp co li op wd tl lc fo sf lf nf) : tz_Met l ⟨"StoryMachine$Dictionary", "addCharacter", "(I)V"⟩ tw_tbl rm_Di_addCharacter (tzP (dC, dI) vcl cI cJ (gsC a he dp co li op wd tl lc fo sf lf nf) a (adC a) [.ref (a 18), .int x1] sz) (tq_Q (q_Di_addCharacter dC dI cI cJ a he dp co li op wd tl lc fo sf lf nf x1) (ga (adC a) sz)) 0 0 0 0 (ga (adC a) sz) := by
  refine tz_ofW (cc := prog_3_method_7_code) (maxL := 3) (ret := none) (by decide) (tx_isM mw_922) ?_
  intro p e s m args below meth c s₁ B hml hv
  obtain ⟨rfl, hsz, hI0, hK, hst0⟩ := hv
  have hx := B.exec
  have hb := B.bytes
  have hr := B.returns
  have hts := atoms_spec (ws := tw_tbl) B.pre
  have hown : s.vm.findClass "StoryMachine$Dictionary" = some m.cls := findClass_of_methodNamed B.named
  have hlocks := B.notSynchronized
  subst hsz
  have hst := fun (H : Heap) (locs : List Loc) (hS : va_S (ga (adC a) s.heap.size) s.heap H locs) (U : State) (hU : U.heap = H) (hW : s.WarmedH U.vm) => zS_all adC_map hI0 hst0 hS hU hW
  have hAC : ∀ q ∈ adC a, ga (adC a) s.heap.size q := fun q h => Or.inl h
  have hA0 : ∀ q, s.heap.size ≤ q → ga (adC a) s.heap.size q := fun q h => Or.inr h
  have hI : sI (dC, dI) vcl cI cJ (gsC a he dp co li op wd tl lc fo sf lf nf) (ga (adC a) s.heap.size) s.heap s.heap [] := ⟨hI0, va_S.rf⟩
  clear hI0 hst0
  have hl := lv_entry ([.ref (a 18), .int x1]) (n := 3) (Nat.le_of_ble_eq_true rfl)
  rw [lg_entry_eq]
  generalize (lg_sl ([.ref (a 18), .int x1]) ++ List.replicate (3 - (lg_sl ([.ref (a 18), .int x1])).length) Slot.unset).toArray = ls at hl ⊢
  have hl : lv_has ls 3 [(0, .ref (a 18)), (1, .int x1)] := hl
  generalize hZ : tz_MQ below (tq_Q (q_Di_addCharacter dC dI cI cJ a he dp co li op wd tl lc fo sf lf nf x1) (ga (adC a) s.heap.size)) ([.ref (a 18), .int x1] : List Value).toArray s 0 0 0 0 (ga (adC a) s.heap.size) = Z
  obtain ⟨A, hAe⟩ : ∃ A, A = ga (adC a) s.heap.size := ⟨_, rfl⟩
  rw [← hAe] at hst hAC hA0 hI hZ
  refine sv_start hI (fun H locs hI => ?_)
  obtain ⟨⟨o1, o2⟩, ⟨o3, o4⟩, ⟨o5, o6⟩, ⟨o7, o8⟩, ⟨o9, o10⟩, ⟨o11, o12⟩, ⟨o13, o14⟩, ⟨o15, o16⟩, ⟨o17, o18⟩, o19, -, -⟩ := id hok
  have gx1 := sn_rng x1
  have j34 : ∀ (H : Heap) (locs : List Loc) (ls : Array Slot) (v34_2 : Int32), sI (dC, dI) vcl cI cJ (gsC a he dp co li op wd tl lc fo sf lf nf) A s.heap H locs → okC he dp co li op wd tl lc fo sf lf nf → (-1) ≤ v34_2.toInt → v34_2.toInt ≤ 23 → lv_has ls 3 [(0, .ref (a 18)), (1, .int x1), (2, .int v34_2)] → W p l e (headSpec tw_tbl rm_Di_addCharacter).room s m ([.ref (a 18), .int x1] : List Value).toArray below meth c H locs 0 0 Z (F0 m 34 ls []) := by
    intro H locs ls v34_2 hI hok g34_0 g34_1 hl
    obtain ⟨⟨o20, o21⟩, ⟨o22, o23⟩, ⟨o24, o25⟩, ⟨o26, o27⟩, ⟨o28, o29⟩, ⟨o30, o31⟩, ⟨o32, o33⟩, ⟨o34, o35⟩, ⟨o36, o37⟩, o38, -, -⟩ := id hok
    refine lv_iload_n hx hb d_Di_addCharacter_34 rfl (lv_at hl 2 rfl) ?_
    refine sn_if_lt (tgt := 54) hx hb d_Di_addCharacter_35 (by decide) (fun b39 => ?_) (fun b39 => ?_)
    · refine lv_aload_n hx hb d_Di_addCharacter_54 rfl (lv_at hl 0 rfl) ?_
      refine sn_iconst hx hb d_Di_addCharacter_55 (by decide) (fun z40 hz40 => ?_)
      refine tz_call (A1 := ga (adC a) H.size) (tz_runV (C := "StoryMachine$Dictionary") (As := [.int z40]) (rest := []) ⟨hx, hb, hml, hown, hts⟩ (c_Di_addLetter l hfl dC dI cI cJ a H.size he dp co li op wd tl lc fo sf lf nf z40 hok) (tx_cb (n := 1) hts rfl rfl ⟨Nat.le_of_ble_eq_true rfl, Nat.le_of_ble_eq_true rfl⟩ (tx_code.of (hts _ mw_991)) (hts _ mw_10) (by decide +kernel) (hts _ mw_988)) (hts _ mw_990) (hts _ ms_Di_addLetter) ⟨tz_blind, sv_recv (q0 := 18) hts in_Di hK hI kC_18 rfl, fun U hU hW => ⟨rfl, by rw [hU], by rw [hU]; exact hI.1, va_K.moved hW.alike hK, hst _ _ hI.2 U hU hW⟩⟩ rfl rfl hl.1 rfl (lv_room (Nat.le_of_ble_eq_true rfl)) d_Di_addCharacter_56 ⟨Nat.le_of_ble_eq_true rfl, Nat.le_of_ble_eq_true rfl⟩) hI.2 (fun q _ h => ga_sub hAC hA0 hI.2 q h) (ga_sub hAC hA0 hI.2) (fun v t H1 locs1 ht hWt hpost _ _ hS => ?_) (fun x t H1 locs1 ht hWt hpost _ _ hS => (hpost.2 x rfl).elim)
      rcases hpost.1 _ rfl with ⟨t_lc41, hv, c42, c42_0, hI1⟩
      cases hv
      have hI : sI (dC, dI) vcl cI cJ (gsC a he dp co li op wd tl t_lc41 fo sf lf nf) A s.heap H1 locs1 := ⟨by rw [← ht]; exact hI1, hS⟩
      obtain ⟨-, -, -, -, -, -, -, ⟨o43, o44⟩, -, -, -, -⟩ := id c42
      clear hpost hI1 hS ht hWt
      revert hI; generalize H1 = H; generalize locs1 = locs; intro hI
      refine lv_aload_n hx hb d_Di_addCharacter_59 rfl (lv_at hl 0 rfl) ?_
      refine sn_bipush hx hb d_Di_addCharacter_60 (by decide) (fun z45 hz45 => ?_)
      refine tz_call (A1 := ga (adC a) H.size) (tz_runV (C := "StoryMachine$Dictionary") (As := [.int z45]) (rest := []) ⟨hx, hb, hml, hown, hts⟩ (c_Di_addLetter l hfl dC dI cI cJ a H.size he dp co li op wd tl t_lc41 fo sf lf nf z45 c42) (tx_cb (n := 1) hts rfl rfl ⟨Nat.le_of_ble_eq_true rfl, Nat.le_of_ble_eq_true rfl⟩ (tx_code.of (hts _ mw_991)) (hts _ mw_10) (by decide +kernel) (hts _ mw_988)) (hts _ mw_990) (hts _ ms_Di_addLetter) ⟨tz_blind, sv_recv (q0 := 18) hts in_Di hK hI kC_18 rfl, fun U hU hW => ⟨rfl, by rw [hU], by rw [hU]; exact hI.1, va_K.moved hW.alike hK, hst _ _ hI.2 U hU hW⟩⟩ rfl rfl hl.1 rfl (lv_room (Nat.le_of_ble_eq_true rfl)) d_Di_addCharacter_62 ⟨Nat.le_of_ble_eq_true rfl, Nat.le_of_ble_eq_true rfl⟩) hI.2 (fun q _ h => ga_sub hAC hA0 hI.2 q h) (ga_sub hAC hA0 hI.2) (fun v t H1 locs1 ht hWt hpost _ _ hS => ?_) (fun x t H1 locs1 ht hWt hpost _ _ hS => (hpost.2 x rfl).elim)
      rcases hpost.1 _ rfl with ⟨t_lc46, hv, c47, c47_0, hI1⟩
      cases hv
      have hI : sI (dC, dI) vcl cI cJ (gsC a he dp co li op wd tl t_lc46 fo sf lf nf) A s.heap H1 locs1 := ⟨by rw [← ht]; exact hI1, hS⟩
      obtain ⟨-, -, -, -, -, -, -, ⟨o48, o49⟩, -, -, -, -⟩ := id c47
      clear hpost hI1 hS ht hWt
      revert hI; generalize H1 = H; generalize locs1 = locs; intro hI
      refine lv_aload_n hx hb d_Di_addCharacter_65 rfl (lv_at hl 0 rfl) ?_
      refine lv_iload_n hx hb d_Di_addCharacter_66 rfl (lv_at hl 1 rfl) ?_
      refine sn_bipush hx hb d_Di_addCharacter_67 (by decide) (fun z50 hz50 => ?_)
      refine sn_idivT hx hb d_Di_addCharacter_69 (by omega) (fun z51 hz51a hz51b => ?_)
      refine tz_call (A1 := ga (adC a) H.size) (tz_runV (C := "StoryMachine$Dictionary") (As := [.int z51]) (rest := []) ⟨hx, hb, hml, hown, hts⟩ (c_Di_addLetter l hfl dC dI cI cJ a H.size he dp co li op wd tl t_lc46 fo sf lf nf z51 c47) (tx_cb (n := 1) hts rfl rfl ⟨Nat.le_of_ble_eq_true rfl, Nat.le_of_ble_eq_true rfl⟩ (tx_code.of (hts _ mw_991)) (hts _ mw_10) (by decide +kernel) (hts _ mw_988)) (hts _ mw_990) (hts _ ms_Di_addLetter) ⟨tz_blind, sv_recv (q0 := 18) hts in_Di hK hI kC_18 rfl, fun U hU hW => ⟨rfl, by rw [hU], by rw [hU]; exact hI.1, va_K.moved hW.alike hK, hst _ _ hI.2 U hU hW⟩⟩ rfl rfl hl.1 rfl (lv_room (Nat.le_of_ble_eq_true rfl)) d_Di_addCharacter_70 ⟨Nat.le_of_ble_eq_true rfl, Nat.le_of_ble_eq_true rfl⟩) hI.2 (fun q _ h => ga_sub hAC hA0 hI.2 q h) (ga_sub hAC hA0 hI.2) (fun v t H1 locs1 ht hWt hpost _ _ hS => ?_) (fun x t H1 locs1 ht hWt hpost _ _ hS => (hpost.2 x rfl).elim)
      rcases hpost.1 _ rfl with ⟨t_lc52, hv, c53, c53_0, hI1⟩
      cases hv
      have hI : sI (dC, dI) vcl cI cJ (gsC a he dp co li op wd tl t_lc52 fo sf lf nf) A s.heap H1 locs1 := ⟨by rw [← ht]; exact hI1, hS⟩
      obtain ⟨-, -, -, -, -, -, -, ⟨o54, o55⟩, -, -, -, -⟩ := id c53
      clear hpost hI1 hS ht hWt
      revert hI; generalize H1 = H; generalize locs1 = locs; intro hI
      refine lv_aload_n hx hb d_Di_addCharacter_73 rfl (lv_at hl 0 rfl) ?_
      refine lv_iload_n hx hb d_Di_addCharacter_74 rfl (lv_at hl 1 rfl) ?_
      refine sn_bipush hx hb d_Di_addCharacter_75 (by decide) (fun z56 hz56 => ?_)
      refine sn_iremT hx hb d_Di_addCharacter_77 (by omega) (fun z57 hz57a hz57b => ?_)
      refine tz_call (A1 := ga (adC a) H.size) (tz_runV (C := "StoryMachine$Dictionary") (As := [.int z57]) (rest := []) ⟨hx, hb, hml, hown, hts⟩ (c_Di_addLetter l hfl dC dI cI cJ a H.size he dp co li op wd tl t_lc52 fo sf lf nf z57 c53) (tx_cb (n := 1) hts rfl rfl ⟨Nat.le_of_ble_eq_true rfl, Nat.le_of_ble_eq_true rfl⟩ (tx_code.of (hts _ mw_991)) (hts _ mw_10) (by decide +kernel) (hts _ mw_988)) (hts _ mw_990) (hts _ ms_Di_addLetter) ⟨tz_blind, sv_recv (q0 := 18) hts in_Di hK hI kC_18 rfl, fun U hU hW => ⟨rfl, by rw [hU], by rw [hU]; exact hI.1, va_K.moved hW.alike hK, hst _ _ hI.2 U hU hW⟩⟩ rfl rfl hl.1 rfl (lv_room (Nat.le_of_ble_eq_true rfl)) d_Di_addCharacter_78 ⟨Nat.le_of_ble_eq_true rfl, Nat.le_of_ble_eq_true rfl⟩) hI.2 (fun q _ h => ga_sub hAC hA0 hI.2 q h) (ga_sub hAC hA0 hI.2) (fun v t H1 locs1 ht hWt hpost _ _ hS => ?_) (fun x t H1 locs1 ht hWt hpost _ _ hS => (hpost.2 x rfl).elim)
      rcases hpost.1 _ rfl with ⟨t_lc58, hv, c59, c59_0, hI1⟩
      cases hv
      have hI : sI (dC, dI) vcl cI cJ (gsC a he dp co li op wd tl t_lc58 fo sf lf nf) A s.heap H1 locs1 := ⟨by rw [← ht]; exact hI1, hS⟩
      obtain ⟨-, -, -, -, -, -, -, ⟨o60, o61⟩, -, -, -, -⟩ := id c59
      clear hpost hI1 hS ht hWt
      revert hI; generalize H1 = H; generalize locs1 = locs; intro hI
      subst hZ
      exact tz_ret (W.vret hx hb hr (fun t ht hW => ⟨⟨fun v9 hv9 => by cases hv9; exact (⟨t_lc58, rfl, c59, by omega, by rw [ht]; exact hI.1⟩), fun x9 hx9 => (by cases hx9)⟩, hI.2.F ht⟩) hI.2.2.2 d_Di_addCharacter_81)
    · refine lv_aload_n hx hb d_Di_addCharacter_38 rfl (lv_at hl 0 rfl) ?_
      refine sn_iconst hx hb d_Di_addCharacter_39 (by decide) (fun z62 hz62 => ?_)
      refine tz_call (A1 := ga (adC a) H.size) (tz_runV (C := "StoryMachine$Dictionary") (As := [.int z62]) (rest := []) ⟨hx, hb, hml, hown, hts⟩ (c_Di_addLetter l hfl dC dI cI cJ a H.size he dp co li op wd tl lc fo sf lf nf z62 hok) (tx_cb (n := 1) hts rfl rfl ⟨Nat.le_of_ble_eq_true rfl, Nat.le_of_ble_eq_true rfl⟩ (tx_code.of (hts _ mw_991)) (hts _ mw_10) (by decide +kernel) (hts _ mw_988)) (hts _ mw_990) (hts _ ms_Di_addLetter) ⟨tz_blind, sv_recv (q0 := 18) hts in_Di hK hI kC_18 rfl, fun U hU hW => ⟨rfl, by rw [hU], by rw [hU]; exact hI.1, va_K.moved hW.alike hK, hst _ _ hI.2 U hU hW⟩⟩ rfl rfl hl.1 rfl (lv_room (Nat.le_of_ble_eq_true rfl)) d_Di_addCharacter_40 ⟨Nat.le_of_ble_eq_true rfl, Nat.le_of_ble_eq_true rfl⟩) hI.2 (fun q _ h => ga_sub hAC hA0 hI.2 q h) (ga_sub hAC hA0 hI.2) (fun v t H1 locs1 ht hWt hpost _ _ hS => ?_) (fun x t H1 locs1 ht hWt hpost _ _ hS => (hpost.2 x rfl).elim)
      rcases hpost.1 _ rfl with ⟨t_lc63, hv, c64, c64_0, hI1⟩
      cases hv
      have hI : sI (dC, dI) vcl cI cJ (gsC a he dp co li op wd tl t_lc63 fo sf lf nf) A s.heap H1 locs1 := ⟨by rw [← ht]; exact hI1, hS⟩
      obtain ⟨-, -, -, -, -, -, -, ⟨o65, o66⟩, -, -, -, -⟩ := id c64
      clear hpost hI1 hS ht hWt
      revert hI; generalize H1 = H; generalize locs1 = locs; intro hI
      refine lv_aload_n hx hb d_Di_addCharacter_43 rfl (lv_at hl 0 rfl) ?_
      refine lv_iload_n hx hb d_Di_addCharacter_44 rfl (lv_at hl 2 rfl) ?_
      refine sn_bipush hx hb d_Di_addCharacter_45 (by decide) (fun z67 hz67 => ?_)
      refine sn_iadd hx hb d_Di_addCharacter_47 (by omega) (by omega) (fun z68 hz68 => ?_)
      refine tz_call (A1 := ga (adC a) H.size) (tz_runV (C := "StoryMachine$Dictionary") (As := [.int z68]) (rest := []) ⟨hx, hb, hml, hown, hts⟩ (c_Di_addLetter l hfl dC dI cI cJ a H.size he dp co li op wd tl t_lc63 fo sf lf nf z68 c64) (tx_cb (n := 1) hts rfl rfl ⟨Nat.le_of_ble_eq_true rfl, Nat.le_of_ble_eq_true rfl⟩ (tx_code.of (hts _ mw_991)) (hts _ mw_10) (by decide +kernel) (hts _ mw_988)) (hts _ mw_990) (hts _ ms_Di_addLetter) ⟨tz_blind, sv_recv (q0 := 18) hts in_Di hK hI kC_18 rfl, fun U hU hW => ⟨rfl, by rw [hU], by rw [hU]; exact hI.1, va_K.moved hW.alike hK, hst _ _ hI.2 U hU hW⟩⟩ rfl rfl hl.1 rfl (lv_room (Nat.le_of_ble_eq_true rfl)) d_Di_addCharacter_48 ⟨Nat.le_of_ble_eq_true rfl, Nat.le_of_ble_eq_true rfl⟩) hI.2 (fun q _ h => ga_sub hAC hA0 hI.2 q h) (ga_sub hAC hA0 hI.2) (fun v t H1 locs1 ht hWt hpost _ _ hS => ?_) (fun x t H1 locs1 ht hWt hpost _ _ hS => (hpost.2 x rfl).elim)
      rcases hpost.1 _ rfl with ⟨t_lc69, hv, c70, c70_0, hI1⟩
      cases hv
      have hI : sI (dC, dI) vcl cI cJ (gsC a he dp co li op wd tl t_lc69 fo sf lf nf) A s.heap H1 locs1 := ⟨by rw [← ht]; exact hI1, hS⟩
      obtain ⟨-, -, -, -, -, -, -, ⟨o71, o72⟩, -, -, -, -⟩ := id c70
      clear hpost hI1 hS ht hWt
      revert hI; generalize H1 = H; generalize locs1 = locs; intro hI
      refine lv_goto (tgt := 81) hx hb d_Di_addCharacter_51 (by decide) ?_
      subst hZ
      exact tz_ret (W.vret hx hb hr (fun t ht hW => ⟨⟨fun v9 hv9 => by cases hv9; exact (⟨t_lc69, rfl, c70, by omega, by rw [ht]; exact hI.1⟩), fun x9 hx9 => (by cases hx9)⟩, hI.2.F ht⟩) hI.2.2.2 d_Di_addCharacter_81)
  refine va_ldcS hx hb hown (hst _ [] va_S.rf s rfl (State.WarmedH.refl s)).2.2.2.2.2 d_Di_addCharacter_0 ?_
  refine lv_iload_n hx hb d_Di_addCharacter_2 rfl (lv_at hl 1 rfl) ?_
  refine sn_i2c hx hb d_Di_addCharacter_3 (fun z73 hz73a hz73b => ?_)
  refine tz_call (A1 := ga (adC a) H.size) (tz_runV (C := "java/lang/String") (As := [.int z73]) (rest := []) ⟨hx, hb, hml, hown, hts⟩ (c_Js_indexOf1 l hfl dC dI cI cJ a H.size he dp co li op wd tl lc fo sf lf nf z73 hok) (tx_cb (n := 1) hts rfl rfl ⟨Nat.le_of_ble_eq_true rfl, Nat.le_of_ble_eq_true rfl⟩ (tx_code.of (hts _ mw_927)) (hts _ mw_19) (by decide +kernel) (hts _ mw_924)) (hts _ mw_925) (hts _ mw_926) ⟨tz_blind, sb_recv (hst _ [] va_S.rf s rfl (State.WarmedH.refl s)) hAe hI.2, fun U hU hW => ⟨rfl, by rw [hU], by rw [hU]; exact hI.1, va_K.moved hW.alike hK, hst _ _ hI.2 U hU hW⟩⟩ rfl rfl hl.1 rfl (lv_room (Nat.le_of_ble_eq_true rfl)) d_Di_addCharacter_4 ⟨Nat.le_of_ble_eq_true rfl, Nat.le_of_ble_eq_true rfl⟩) hI.2 (fun q _ h => ga_sub hAC hA0 hI.2 q h) (ga_sub hAC hA0 hI.2) (fun v t H1 locs1 ht hWt hpost _ _ hS => ?_) (fun x t H1 locs1 ht hWt hpost _ _ hS => (hpost.2 x rfl).elim)
  rcases hpost.1 _ rfl with ⟨z74, hv, c75, c75_0, c75_1, hI1⟩
  cases hv
  have hI : sI (dC, dI) vcl cI cJ (gsC a he dp co li op wd tl lc fo sf lf nf) A s.heap H1 locs1 := ⟨by rw [← ht]; exact hI1, hS⟩
  clear hpost hI1 hS ht hWt
  revert hI; generalize H1 = H; generalize locs1 = locs; intro hI
  refine lv_istore_n (lv' := [(2, .int z74), (0, .ref (a 18)), (1, .int x1)]) hx hb d_Di_addCharacter_7 rfl hl (by decide) rfl (fun ls hl => ?_)
  refine lv_iload_n hx hb d_Di_addCharacter_8 rfl (lv_at hl 2 rfl) ?_
  refine sn_bipush hx hb d_Di_addCharacter_9 (by decide) (fun z76 hz76 => ?_)
  refine sn_icmp_lt (tgt := 34) hx hb d_Di_addCharacter_11 (by decide) (fun b77 => ?_) (fun b77 => ?_)
  · exact j34 _ _ _ z74 hI c75 (by omega) (by omega) (lv_sub hl [1, 2, 0] rfl)
  · refine lv_iload_n hx hb d_Di_addCharacter_14 rfl (lv_at hl 2 rfl) ?_
    refine sn_bipush hx hb d_Di_addCharacter_15 (by decide) (fun z78 hz78 => ?_)
    refine sn_icmp_gt (tgt := 34) hx hb d_Di_addCharacter_17 (by decide) (fun b79 => ?_) (fun b79 => ?_)
    · exact j34 _ _ _ z74 hI c75 (by omega) (by omega) (lv_sub hl [1, 2, 0] rfl)
    · refine lv_aload_n hx hb d_Di_addCharacter_20 rfl (lv_at hl 1 rfl) ?_
      refine lv_iload_n hx hb d_Di_addCharacter_21 rfl (lv_at hl 2 rfl) ?_
      refine sn_bipush hx hb d_Di_addCharacter_22 (by decide) (fun z80 hz80 => ?_)
      refine sn_isub hx hb d_Di_addCharacter_24 (by omega) (by omega) (fun z81 hz81 => ?_)
      refine sn_bipush hx hb d_Di_addCharacter_25 (by decide) (fun z82 hz82 => ?_)
      refine sn_iadd hx hb d_Di_addCharacter_27 (by omega) (by omega) (fun z83 hz83 => ?_)
      refine tz_call (A1 := ga (adC a) H.size) (tz_runV (C := "StoryMachine$Dictionary") (As := [.int z83]) (rest := []) ⟨hx, hb, hml, hown, hts⟩ (c_Di_addLetter l hfl dC dI cI cJ a H.size he dp co li op wd tl lc fo sf lf nf z83 c75) (tx_cb (n := 1) hts rfl rfl ⟨Nat.le_of_ble_eq_true rfl, Nat.le_of_ble_eq_true rfl⟩ (tx_code.of (hts _ mw_991)) (hts _ mw_10) (by decide +kernel) (hts _ mw_988)) (hts _ mw_990) (hts _ ms_Di_addLetter) ⟨tz_blind, sv_recv (q0 := 18) hts in_Di hK hI kC_18 rfl, fun U hU hW => ⟨rfl, by rw [hU], by rw [hU]; exact hI.1, va_K.moved hW.alike hK, hst _ _ hI.2 U hU hW⟩⟩ rfl rfl hl.1 rfl (lv_room (Nat.le_of_ble_eq_true rfl)) d_Di_addCharacter_28 ⟨Nat.le_of_ble_eq_true rfl, Nat.le_of_ble_eq_true rfl⟩) hI.2 (fun q _ h => ga_sub hAC hA0 hI.2 q h) (ga_sub hAC hA0 hI.2) (fun v t H1 locs1 ht hWt hpost _ _ hS => ?_) (fun x t H1 locs1 ht hWt hpost _ _ hS => (hpost.2 x rfl).elim)
      rcases hpost.1 _ rfl with ⟨t_lc84, hv, c85, c85_0, hI1⟩
      cases hv
      have hI : sI (dC, dI) vcl cI cJ (gsC a he dp co li op wd tl t_lc84 fo sf lf nf) A s.heap H1 locs1 := ⟨by rw [← ht]; exact hI1, hS⟩
      obtain ⟨-, -, -, -, -, -, -, ⟨o86, o87⟩, -, -, -, -⟩ := id c85
      clear hpost hI1 hS ht hWt
      revert hI; generalize H1 = H; generalize locs1 = locs; intro hI
      refine lv_goto (tgt := 81) hx hb d_Di_addCharacter_31 (by decide) ?_
      subst hZ
      exact tz_ret (W.vret hx hb hr (fun t ht hW => ⟨⟨fun v9 hv9 => by cases hv9; exact (⟨t_lc84, rfl, c85, by omega, by rw [ht]; exact hI.1⟩), fun x9 hx9 => (by cases hx9)⟩, hI.2.F ht⟩) hI.2.2.2 d_Di_addCharacter_81)
abbrev q_Di_pack (dC : Nat → ClassId) (dI : Nat → Nat → Nat) (cI cJ : ClassId) (a : Nat → Nat) (he dp co li op wd tl lc fo : Int) (sf lf nf : Nat → Int32) (x2 : Int32) (x3 : Int32) : Outcome → State → Prop := fun o t => (∀ v, o = .returned v → ((∃ (lc_ : Int), v = none ∧ okC he dp co li op wd tl lc_ fo sf lf nf ∧ sh_I (dC, dI) vcl cI cJ (gsC a he dp co li op wd tl lc_ fo sf lf nf) t.heap))) ∧ (∀ x, o = .threw x → (False))
def rm_Di_pack : Room := { frames := 5, cells := 0, slots := 0, locals := 148 }
set_option maxHeartbeats 4000000 in
set_option maxRecDepth 100000 in
theorem c_Di_pack (l : Launch) (hfl : l.flags = pinnedFlags ++ [noTraceFlag]) (dC : Nat → ClassId) (dI : Nat → Nat → Nat) (cI cJ : ClassId) (a : Nat → Nat) (sz : Nat) (he dp co li op wd tl lc fo : Int) (sf lf nf : Nat → Int32) (x2 : Int32) (x3 : Int32) (hok : okC he dp co li op wd tl lc fo sf lf nf) (hp0 : 0 ≤ x2.toInt) (hp1 : x2.toInt ≤ 24) (hp2 : 0 ≤ x3.toInt) (hp3 : x3.toInt ≤ 24) (hp4 : x2.toInt + x3.toInt ≤ 24) : tz_Met l ⟨"StoryMachine$Dictionary", "pack", "([III)V"⟩ tw_tbl rm_Di_pack (tzP (dC, dI) vcl cI cJ (gsC a he dp co li op wd tl lc fo sf lf nf) a (adC a) [.ref (a 18), .ref (a 8), .int x2, .int x3] sz) (tq_Q (q_Di_pack dC dI cI cJ a he dp co li op wd tl lc fo sf lf nf x2 x3) (ga (adC a) sz)) 0 0 0 0 (ga (adC a) sz) := by
  refine tz_ofW (cc := prog_3_method_6_code) (maxL := 5) (ret := none) (by decide) (tx_isM mw_918) ?_
  intro p e s m args below meth c s₁ B hml hv
  obtain ⟨rfl, hsz, hI0, hK, hst0⟩ := hv
  have hx := B.exec
  have hb := B.bytes
  have hr := B.returns
  have hts := atoms_spec (ws := tw_tbl) B.pre
  have hown : s.vm.findClass "StoryMachine$Dictionary" = some m.cls := findClass_of_methodNamed B.named
  have hlocks := B.notSynchronized
  subst hsz
  have hst := fun (H : Heap) (locs : List Loc) (hS : va_S (ga (adC a) s.heap.size) s.heap H locs) (U : State) (hU : U.heap = H) (hW : s.WarmedH U.vm) => zS_all adC_map hI0 hst0 hS hU hW
  have hAC : ∀ q ∈ adC a, ga (adC a) s.heap.size q := fun q h => Or.inl h
  have hA0 : ∀ q, s.heap.size ≤ q → ga (adC a) s.heap.size q := fun q h => Or.inr h
  have hI : sI (dC, dI) vcl cI cJ (gsC a he dp co li op wd tl lc fo sf lf nf) (ga (adC a) s.heap.size) s.heap s.heap [] := ⟨hI0, va_S.rf⟩
  clear hI0 hst0
  have hl := lv_entry ([.ref (a 18), .ref (a 8), .int x2, .int x3]) (n := 5) (Nat.le_of_ble_eq_true rfl)
  rw [lg_entry_eq]
  generalize (lg_sl ([.ref (a 18), .ref (a 8), .int x2, .int x3]) ++ List.replicate (5 - (lg_sl ([.ref (a 18), .ref (a 8), .int x2, .int x3])).length) Slot.unset).toArray = ls at hl ⊢
  have hl : lv_has ls 5 [(0, .ref (a 18)), (1, .ref (a 8)), (2, .int x2), (3, .int x3)] := hl
  generalize hZ : tz_MQ below (tq_Q (q_Di_pack dC dI cI cJ a he dp co li op wd tl lc fo sf lf nf x2 x3) (ga (adC a) s.heap.size)) ([.ref (a 18), .ref (a 8), .int x2, .int x3] : List Value).toArray s 0 0 0 0 (ga (adC a) s.heap.size) = Z
  obtain ⟨A, hAe⟩ : ∃ A, A = ga (adC a) s.heap.size := ⟨_, rfl⟩
  rw [← hAe] at hst hAC hA0 hI hZ
  refine sv_start hI (fun H locs hI => ?_)
  obtain ⟨⟨o1, o2⟩, ⟨o3, o4⟩, ⟨o5, o6⟩, ⟨o7, o8⟩, ⟨o9, o10⟩, ⟨o11, o12⟩, ⟨o13, o14⟩, ⟨o15, o16⟩, ⟨o17, o18⟩, o19, -, -⟩ := id hok
  have gx2 := sn_rng x2
  have gx3 := sn_rng x3
  have j36 : ∀ (n : Nat) (H : Heap) (locs : List Loc) (ls : Array Slot) (v36_4 : Int32) (t36_lc : Int), sI (dC, dI) vcl cI cJ (gsC a he dp co li op wd tl t36_lc fo sf lf nf) A s.heap H locs → okC he dp co li op wd tl t36_lc fo sf lf nf → 0 ≤ v36_4.toInt → v36_4.toInt ≤ 6 → lv_has ls 5 [(0, .ref (a 18)), (1, .ref (a 8)), (2, .int x2), (3, .int x3), (4, .int v36_4)] → 6 - v36_4.toInt < (n : Int) → W p l e (headSpec tw_tbl rm_Di_pack).room s m ([.ref (a 18), .ref (a 8), .int x2, .int x3] : List Value).toArray below meth c H locs 0 0 Z (F0 m 36 ls []) := by
    intro n
    induction n with
    | zero => intro H locs ls v36_4 t36_lc hI hok g36_0 g36_1 hl hme; exfalso; obtain ⟨⟨o20, o21⟩, ⟨o22, o23⟩, ⟨o24, o25⟩, ⟨o26, o27⟩, ⟨o28, o29⟩, ⟨o30, o31⟩, ⟨o32, o33⟩, ⟨o34, o35⟩, ⟨o36, o37⟩, o38, -, -⟩ := id hok; omega
    | succ n ih =>
      intro H locs ls v36_4 t36_lc hI hok g36_0 g36_1 hl hme
      obtain ⟨⟨o39, o40⟩, ⟨o41, o42⟩, ⟨o43, o44⟩, ⟨o45, o46⟩, ⟨o47, o48⟩, ⟨o49, o50⟩, ⟨o51, o52⟩, ⟨o53, o54⟩, ⟨o55, o56⟩, o57, -, -⟩ := id hok
      refine lv_iload hx hb d_Di_pack_36 (lv_at hl 4 rfl) ?_
      refine sn_bipush hx hb d_Di_pack_38 (by decide) (fun z58 hz58 => ?_)
      refine sn_icmp_ge (tgt := 57) hx hb d_Di_pack_40 (by decide) (fun b59 => ?_) (fun b59 => ?_)
      · subst hZ
        exact tz_ret (W.vret hx hb hr (fun t ht hW => ⟨⟨fun v9 hv9 => by cases hv9; exact (⟨t36_lc, rfl, hok, by rw [ht]; exact hI.1⟩), fun x9 hx9 => (by cases hx9)⟩, hI.2.F ht⟩) hI.2.2.2 d_Di_pack_57)
      · refine lv_aload_n hx hb d_Di_pack_43 rfl (lv_at hl 0 rfl) ?_
        refine sv_getr (C := "StoryMachine$Dictionary") (T := T_Di) (N := 6) hx hb hts in_Di hown hK hI 18 kC_18 rfl 4 (by decide) (hts _ mw_198) rfl d_Di_pack_44 ?_
        refine lv_iload hx hb d_Di_pack_47 (lv_at hl 4 rfl) ?_
        refine sn_iconst hx hb d_Di_pack_49 (by decide) (fun z60 hz60 => ?_)
        refine sv_iastr hx hb hK (sh_in adC_map hAC) hI 24 kC_24 (by omega) (by omega) (by omega) (by omega) pC_24 d_Di_pack_50 (fun H locs hI => ?_)
        refine sn_iinc (k := 4) hx hb d_Di_pack_51 hl rfl (by decide) (by decide) (by omega) (by omega) (fun ls z61 hz61 hl => ?_)
        have hl : lv_has ls 5 [(4, .int z61), (0, .ref (a 18)), (1, .ref (a 8)), (2, .int x2), (3, .int x3)] := hl
        refine lv_goto (tgt := 36) hx hb d_Di_pack_54 (by decide) ?_
        exact ih _ _ _ z61 t36_lc hI hok (by omega) (by omega) (lv_sub hl [1, 2, 3, 4, 0] rfl) (by omega)
  have j8 : ∀ (n : Nat) (H : Heap) (locs : List Loc) (ls : Array Slot) (v8_4 : Int32) (t8_lc : Int), sI (dC, dI) vcl cI cJ (gsC a he dp co li op wd tl t8_lc fo sf lf nf) A s.heap H locs → okC he dp co li op wd tl t8_lc fo sf lf nf → 0 ≤ v8_4.toInt → v8_4.toInt ≤ 48 → lv_has ls 5 [(0, .ref (a 18)), (1, .ref (a 8)), (2, .int x2), (3, .int x3), (4, .int v8_4)] → 48 - v8_4.toInt < (n : Int) → W p l e (headSpec tw_tbl rm_Di_pack).room s m ([.ref (a 18), .ref (a 8), .int x2, .int x3] : List Value).toArray below meth c H locs 0 0 Z (F0 m 8 ls []) := by
    intro n
    induction n with
    | zero => intro H locs ls v8_4 t8_lc hI hok g8_0 g8_1 hl hme; exfalso; obtain ⟨⟨o62, o63⟩, ⟨o64, o65⟩, ⟨o66, o67⟩, ⟨o68, o69⟩, ⟨o70, o71⟩, ⟨o72, o73⟩, ⟨o74, o75⟩, ⟨o76, o77⟩, ⟨o78, o79⟩, o80, -, -⟩ := id hok; omega
    | succ n ih =>
      intro H locs ls v8_4 t8_lc hI hok g8_0 g8_1 hl hme
      obtain ⟨⟨o81, o82⟩, ⟨o83, o84⟩, ⟨o85, o86⟩, ⟨o87, o88⟩, ⟨o89, o90⟩, ⟨o91, o92⟩, ⟨o93, o94⟩, ⟨o95, o96⟩, ⟨o97, o98⟩, o99, -, -⟩ := id hok
      refine lv_iload hx hb d_Di_pack_8 (lv_at hl 4 rfl) ?_
      refine lv_iload_n hx hb d_Di_pack_10 rfl (lv_at hl 2 rfl) ?_
      refine lv_iload_n hx hb d_Di_pack_11 rfl (lv_at hl 3 rfl) ?_
      refine sn_iadd hx hb d_Di_pack_12 (by omega) (by omega) (fun z100 hz100 => ?_)
      refine sn_icmp_ge (tgt := 30) hx hb d_Di_pack_13 (by decide) (fun b101 => ?_) (fun b101 => ?_)
      · refine lv_aload_n hx hb d_Di_pack_30 rfl (lv_at hl 0 rfl) ?_
        refine sv_gete (C := "StoryMachine$Dictionary") (T := T_Di) (N := 6) hx hb hts in_Di hown hK hI 18 kC_18 rfl 5 (by decide) (hts _ mw_199) rfl d_Di_pack_31 (fun z102 hz102 => ?_)
        refine lv_istore (lv' := [(4, .int z102), (0, .ref (a 18)), (1, .ref (a 8)), (2, .int x2), (3, .int x3)]) hx hb d_Di_pack_34 hl (by decide) rfl (fun ls hl => ?_)
        exact j36 7 _ _ _ z102 t8_lc hI hok (by omega) (by omega) (lv_sub hl [1, 2, 3, 4, 0] rfl) (by omega)
      · refine lv_aload_n hx hb d_Di_pack_16 rfl (lv_at hl 0 rfl) ?_
        refine lv_aload_n hx hb d_Di_pack_17 rfl (lv_at hl 1 rfl) ?_
        refine lv_iload hx hb d_Di_pack_18 (lv_at hl 4 rfl) ?_
        refine sv_ialdr hx hb hK hI 8 kC_8 (by omega) (by omega) d_Di_pack_20 (fun z103 hz103a hz103b => ?_)
        refine tz_call (A1 := ga (adC a) H.size) (tz_runV (C := "StoryMachine$Dictionary") (As := [.int z103]) (rest := []) ⟨hx, hb, hml, hown, hts⟩ (c_Di_addCharacter l hfl dC dI cI cJ a H.size he dp co li op wd tl t8_lc fo sf lf nf z103 hok) (tx_cb (n := 1) hts rfl rfl ⟨Nat.le_of_ble_eq_true rfl, Nat.le_of_ble_eq_true rfl⟩ (tx_code.of (hts _ mw_922)) (hts _ mw_10) (by decide +kernel) (hts _ mw_919)) (hts _ mw_921) (hts _ ms_Di_addCharacter) ⟨tz_blind, sv_recv (q0 := 18) hts in_Di hK hI kC_18 rfl, fun U hU hW => ⟨rfl, by rw [hU], by rw [hU]; exact hI.1, va_K.moved hW.alike hK, hst _ _ hI.2 U hU hW⟩⟩ rfl rfl hl.1 rfl (lv_room (Nat.le_of_ble_eq_true rfl)) d_Di_pack_21 ⟨Nat.le_of_ble_eq_true rfl, Nat.le_of_ble_eq_true rfl⟩) hI.2 (fun q _ h => ga_sub hAC hA0 hI.2 q h) (ga_sub hAC hA0 hI.2) (fun v t H1 locs1 ht hWt hpost _ _ hS => ?_) (fun x t H1 locs1 ht hWt hpost _ _ hS => (hpost.2 x rfl).elim)
        rcases hpost.1 _ rfl with ⟨t_lc104, hv, c105, c105_0, hI1⟩
        cases hv
        have hI : sI (dC, dI) vcl cI cJ (gsC a he dp co li op wd tl t_lc104 fo sf lf nf) A s.heap H1 locs1 := ⟨by rw [← ht]; exact hI1, hS⟩
        obtain ⟨-, -, -, -, -, -, -, ⟨o106, o107⟩, -, -, -, -⟩ := id c105
        clear hpost hI1 hS ht hWt
        revert hI; generalize H1 = H; generalize locs1 = locs; intro hI
        refine sn_iinc (k := 4) hx hb d_Di_pack_24 hl rfl (by decide) (by decide) (by omega) (by omega) (fun ls z108 hz108 hl => ?_)
        have hl : lv_has ls 5 [(4, .int z108), (0, .ref (a 18)), (1, .ref (a 8)), (2, .int x2), (3, .int x3)] := hl
        refine lv_goto (tgt := 8) hx hb d_Di_pack_27 (by decide) ?_
        exact ih _ _ _ z108 t_lc104 hI c105 (by omega) (by omega) (lv_sub hl [1, 2, 3, 4, 0] rfl) (by omega)
  refine lv_aload_n hx hb d_Di_pack_0 rfl (lv_at hl 0 rfl) ?_
  refine sn_iconst hx hb d_Di_pack_1 (by decide) (fun z109 hz109 => ?_)
  refine sv_put (C := "StoryMachine$Dictionary") (T := T_Di) (N := 6) (ty := .int) hx hb hts in_Di t_Di tk_Di nm_Di hown hK (sh_in adC_map hAC) hI 18 kC_18 rfl 5 (by decide) (hts _ mw_199) rfl (by decide +kernel) rfl rfl (Nat.le_of_ble_eq_true rfl) (Int.le_refl _) (Int.le_refl _) pC_18_5 d_Di_pack_2 (fun H locs hI => ?_)
  refine lv_iload_n hx hb d_Di_pack_5 rfl (lv_at hl 2 rfl) ?_
  refine lv_istore (lv' := [(4, .int x2), (0, .ref (a 18)), (1, .ref (a 8)), (2, .int x2), (3, .int x3)]) hx hb d_Di_pack_6 hl (by decide) rfl (fun ls hl => ?_)
  have ho110 : okC he dp co li op wd tl z109.toInt fo sf lf nf := ⟨hok.1, hok.2.1, hok.2.2.1, hok.2.2.2.1, hok.2.2.2.2.1, hok.2.2.2.2.2.1, hok.2.2.2.2.2.2.1, ⟨by omega, by omega⟩, hok.2.2.2.2.2.2.2.2.1, hok.2.2.2.2.2.2.2.2.2.1, hok.2.2.2.2.2.2.2.2.2.2.1, hok.2.2.2.2.2.2.2.2.2.2.2⟩
  exact j8 49 _ _ _ x2 z109.toInt hI ho110 (by omega) (by omega) (lv_sub hl [1, 2, 3, 4, 0] rfl) (by omega)
