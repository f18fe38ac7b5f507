abbrev q_Jl_charAt2 (dC : Nat → ClassId) (dI : Nat → Nat → Nat) (cI cJ : ClassId) (a : Nat → Nat) (he dp co li op wd tl lc fo : Int) (sf lf nf : Nat → Int32) (x1 : Int32) : Outcome → State → Prop := fun o t => (∀ v, o = .returned v → ((∃ (z : Int32), v = some (.int z) ∧ okC he dp co li op wd tl lc fo sf lf nf ∧ (0 ≤ z.toInt) ∧ (z.toInt ≤ 65535) ∧ sh_I (dC, dI) vcl cI cJ (gsC a he dp co li op wd tl lc fo sf lf nf) t.heap))) ∧ (∀ x, o = .threw x → (False))
def rm_Jl_charAt2 : Room := { frames := 2, cells := 0, slots := 0, locals := 43 }
set_option maxHeartbeats 4000000 in
set_option maxRecDepth 100000 in
theorem c_Jl_charAt2 (l : Launch) (hfl : l.flags = pinnedFlags ++ [noTraceFlag]) (dC : Nat → ClassId) (dI : Nat → Nat → Nat) (cI cJ : ClassId) (a : Nat → Nat) (sz : Nat) (he dp co li op wd tl lc fo : Int) (sf lf nf : Nat → Int32) (x1 : Int32) (hok : okC he dp co li op wd tl lc fo sf lf nf) (hp0 : 0 ≤ x1.toInt) (hp1 : x1.toInt ≤ 23) : tz_Met l ⟨"java/lang/StringLatin1", "charAt", "([BI)C"⟩ tw_tbl rm_Jl_charAt2 (tzP (dC, dI) vcl cI cJ (gsC a he dp co li op wd tl lc fo sf lf nf) a (adC a) [.ref (a 106), .int x1] sz) (tq_Q (q_Jl_charAt2 dC dI cI cJ a he dp co li op wd tl lc fo sf lf nf x1) (ga (adC a) sz)) 0 0 0 0 (ga (adC a) sz) := by
  refine tz_ofW (cc := prog_23_method_2_code) (maxL := 2) (ret := (some .char)) (by decide) (tx_isM mw_671) ?_
  intro p e s m args below meth c s₁ B hml hv
  obtain ⟨rfl, hsz, hI0, hK, hst0⟩ := hv
  have hx := B.exec
  have hb := B.bytes
  have hr := B.returns
  have hts := atoms_spec (ws := tw_tbl) B.pre
  have hown : s.vm.findClass "java/lang/StringLatin1" = some m.cls := findClass_of_methodNamed B.named
  have hlocks := B.notSynchronized
  subst hsz
  have hst := fun (H : Heap) (locs : List Loc) (hS : va_S (ga (adC a) s.heap.size) s.heap H locs) (U : State) (hU : U.heap = H) (hW : s.WarmedH U.vm) => zS_all adC_map hI0 hst0 hS hU hW
  have hAC : ∀ q ∈ adC a, ga (adC a) s.heap.size q := fun q h => Or.inl h
  have hA0 : ∀ q, s.heap.size ≤ q → ga (adC a) s.heap.size q := fun q h => Or.inr h
  have hI : sI (dC, dI) vcl cI cJ (gsC a he dp co li op wd tl lc fo sf lf nf) (ga (adC a) s.heap.size) s.heap s.heap [] := ⟨hI0, va_S.rf⟩
  clear hI0 hst0
  have hl := lv_entry ([.ref (a 106), .int x1]) (n := 2) (Nat.le_of_ble_eq_true rfl)
  rw [lg_entry_eq]
  generalize (lg_sl ([.ref (a 106), .int x1]) ++ List.replicate (2 - (lg_sl ([.ref (a 106), .int x1])).length) Slot.unset).toArray = ls at hl ⊢
  have hl : lv_has ls 2 [(0, .ref (a 106)), (1, .int x1)] := hl
  generalize hZ : tz_MQ below (tq_Q (q_Jl_charAt2 dC dI cI cJ a he dp co li op wd tl lc fo sf lf nf x1) (ga (adC a) s.heap.size)) ([.ref (a 106), .int x1] : List Value).toArray s 0 0 0 0 (ga (adC a) s.heap.size) = Z
  obtain ⟨A, hAe⟩ : ∃ A, A = ga (adC a) s.heap.size := ⟨_, rfl⟩
  rw [← hAe] at hst hAC hA0 hI hZ
  refine sv_start hI (fun H locs hI => ?_)
  obtain ⟨⟨o1, o2⟩, ⟨o3, o4⟩, ⟨o5, o6⟩, ⟨o7, o8⟩, ⟨o9, o10⟩, ⟨o11, o12⟩, ⟨o13, o14⟩, ⟨o15, o16⟩, ⟨o17, o18⟩, o19, -, -⟩ := id hok
  have gx1 := sn_rng x1
  refine lv_iload_n hx hb d_Jl_charAt2_0 rfl (lv_at hl 1 rfl) ?_
  refine lv_aload_n hx hb d_Jl_charAt2_1 rfl (lv_at hl 0 rfl) ?_
  refine sb_blen hx hb (hst _ [] va_S.rf s rfl (State.WarmedH.refl s)) hAe hI.2 d_Jl_charAt2_2 (fun z20 hz20 => ?_)
  refine tz_call (A1 := ga (adC a) H.size) (tz_runS (As := [.int x1, .int z20]) (rest := []) ⟨hx, hb, hml, hown, hts⟩ (c_Js_checkIndex2 l hfl dC dI cI cJ a H.size he dp co li op wd tl lc fo sf lf nf x1 z20 hok (by omega) (by omega) (by omega) (by omega)) (tx_cb (n := 2) hts rfl rfl ⟨Nat.le_of_ble_eq_true rfl, Nat.le_of_ble_eq_true rfl⟩ (tx_code.of (hts _ mw_674)) (hts _ mw_19) (by decide +kernel) (hts _ mw_672)) (hts _ mw_673) ⟨tz_blind, fun U hU hW => ⟨rfl, by rw [hU], by rw [hU]; exact hI.1, va_K.moved hW.alike hK, hst _ _ hI.2 U hU hW⟩⟩ rfl rfl hl.1 rfl (lv_room (Nat.le_of_ble_eq_true rfl)) d_Jl_charAt2_3 ⟨Nat.le_of_ble_eq_true rfl, Nat.le_of_ble_eq_true rfl⟩) hI.2 (fun q _ h => ga_sub hAC hA0 hI.2 q h) (ga_sub hAC hA0 hI.2) (fun v t H1 locs1 ht hWt hpost _ _ hS => ?_) (fun x t H1 locs1 ht hWt hpost _ _ hS => (hpost.2 x rfl).elim)
  rcases hpost.1 _ rfl with ⟨hv, c21, hI1⟩
  cases hv
  have hI : sI (dC, dI) vcl cI cJ (gsC a he dp co li op wd tl lc fo sf lf nf) A s.heap H1 locs1 := ⟨by rw [← ht]; exact hI1, hS⟩
  clear hpost hI1 hS ht hWt
  revert hI; generalize H1 = H; generalize locs1 = locs; intro hI
  refine lv_aload_n hx hb d_Jl_charAt2_6 rfl (lv_at hl 0 rfl) ?_
  refine lv_iload_n hx hb d_Jl_charAt2_7 rfl (lv_at hl 1 rfl) ?_
  refine sb_bald hx hb (hst _ [] va_S.rf s rfl (State.WarmedH.refl s)) hAe hI.2 (by omega) (by omega) d_Jl_charAt2_8 (fun z22 hz22a hz22b => ?_)
  refine sn_sipush hx hb d_Jl_charAt2_9 (by decide) (fun z23 hz23 => ?_)
  refine sn_iand (k := 8) (M := 255) hx hb d_Jl_charAt2_12 (by decide) (by decide) (by omega) (fun z24 hz24a hz24b hz24c => ?_)
  clear hz24c
  refine sn_i2c hx hb d_Jl_charAt2_13 (fun z25 hz25a hz25b => ?_)
  subst hZ
  exact tz_ret (W.zret (v := z25) hx hb hr (sn_char (by omega) (by omega)) (fun t ht hW => ⟨⟨fun v9 hv9 => by cases hv9; exact (⟨z25, rfl, c21, by omega, by omega, by rw [ht]; exact hI.1⟩), fun x9 hx9 => (by cases hx9)⟩, hI.2.F ht⟩) hI.2.2.2 d_Jl_charAt2_14)
abbrev q_Js_charAt1 (dC : Nat → ClassId) (dI : Nat → Nat → Nat) (cI cJ : ClassId) (a : Nat → Nat) (he dp co li op wd tl lc fo : Int) (sf lf nf : Nat → Int32) (x1 : Int32) : Outcome → State → Prop := fun o t => (∀ v, o = .returned v → ((∃ (z : Int32), v = some (.int z) ∧ okC he dp co li op wd tl lc fo sf lf nf ∧ (0 ≤ z.toInt) ∧ (z.toInt ≤ 65535) ∧ sh_I (dC, dI) vcl cI cJ (gsC a he dp co li op wd tl lc fo sf lf nf) t.heap))) ∧ (∀ x, o = .threw x → (False))
def rm_Js_charAt1 : Room := { frames := 3, cells := 0, slots := 0, locals := 64 }
set_option maxHeartbeats 4000000 in
set_option maxRecDepth 100000 in
theorem c_Js_charAt1 (l : Launch) (hfl : l.flags = pinnedFlags ++ [noTraceFlag]) (dC : Nat → ClassId) (dI : Nat → Nat → Nat) (cI cJ : ClassId) (a : Nat → Nat) (sz : Nat) (he dp co li op wd tl lc fo : Int) (sf lf nf : Nat → Int32) (x1 : Int32) (hok : okC he dp co li op wd tl lc fo sf lf nf) (hp0 : 0 ≤ x1.toInt) (hp1 : x1.toInt ≤ 23) : tz_Met l ⟨"java/lang/String", "charAt", "(I)C"⟩ tw_tbl rm_Js_charAt1 (tzP (dC, dI) vcl cI cJ (gsC a he dp co li op wd tl lc fo sf lf nf) a (adC a) [.ref (a 105), .int x1] sz) (tq_Q (q_Js_charAt1 dC dI cI cJ a he dp co li op wd tl lc fo sf lf nf x1) (ga (adC a) sz)) 0 0 0 0 (ga (adC a) sz) := by
  refine tz_ofW (cc := prog_22_method_56_code) (maxL := 2) (ret := (some .char)) (by decide) (tx_isM mw_662) ?_
  intro p e s m args below meth c s₁ B hml hv
  obtain ⟨rfl, hsz, hI0, hK, hst0⟩ := hv
  have hx := B.exec
  have hb := B.bytes
  have hr := B.returns
  have hts := atoms_spec (ws := tw_tbl) B.pre
  have hown : s.vm.findClass "java/lang/String" = some m.cls := findClass_of_methodNamed B.named
  have hlocks := B.notSynchronized
  subst hsz
  have hst := fun (H : Heap) (locs : List Loc) (hS : va_S (ga (adC a) s.heap.size) s.heap H locs) (U : State) (hU : U.heap = H) (hW : s.WarmedH U.vm) => zS_all adC_map hI0 hst0 hS hU hW
  have hAC : ∀ q ∈ adC a, ga (adC a) s.heap.size q := fun q h => Or.inl h
  have hA0 : ∀ q, s.heap.size ≤ q → ga (adC a) s.heap.size q := fun q h => Or.inr h
  have hI : sI (dC, dI) vcl cI cJ (gsC a he dp co li op wd tl lc fo sf lf nf) (ga (adC a) s.heap.size) s.heap s.heap [] := ⟨hI0, va_S.rf⟩
  clear hI0 hst0
  have hl := lv_entry ([.ref (a 105), .int x1]) (n := 2) (Nat.le_of_ble_eq_true rfl)
  rw [lg_entry_eq]
  generalize (lg_sl ([.ref (a 105), .int x1]) ++ List.replicate (2 - (lg_sl ([.ref (a 105), .int x1])).length) Slot.unset).toArray = ls at hl ⊢
  have hl : lv_has ls 2 [(0, .ref (a 105)), (1, .int x1)] := hl
  generalize hZ : tz_MQ below (tq_Q (q_Js_charAt1 dC dI cI cJ a he dp co li op wd tl lc fo sf lf nf x1) (ga (adC a) s.heap.size)) ([.ref (a 105), .int x1] : List Value).toArray s 0 0 0 0 (ga (adC a) s.heap.size) = Z
  obtain ⟨A, hAe⟩ : ∃ A, A = ga (adC a) s.heap.size := ⟨_, rfl⟩
  rw [← hAe] at hst hAC hA0 hI hZ
  refine sv_start hI (fun H locs hI => ?_)
  obtain ⟨⟨o1, o2⟩, ⟨o3, o4⟩, ⟨o5, o6⟩, ⟨o7, o8⟩, ⟨o9, o10⟩, ⟨o11, o12⟩, ⟨o13, o14⟩, ⟨o15, o16⟩, ⟨o17, o18⟩, o19, -, -⟩ := id hok
  have gx1 := sn_rng x1
  refine lv_aload_n hx hb d_Js_charAt1_0 rfl (lv_at hl 0 rfl) ?_
  refine tz_call (A1 := ga (adC a) H.size) (tz_runV (C := "java/lang/String") (As := []) (rest := []) ⟨hx, hb, hml, hown, hts⟩ (c_Js_isLatin10 l hfl dC dI cI cJ a H.size he dp co li op wd tl lc fo sf lf nf  hok) (tx_cb (n := 0) hts rfl rfl ⟨Nat.le_of_ble_eq_true rfl, Nat.le_of_ble_eq_true rfl⟩ (tx_code.of (hts _ mw_666)) (hts _ mw_19) (by decide +kernel) (hts _ mw_663)) (hts _ mw_664) (hts _ mw_665) ⟨tz_blind, sb_recv (hst _ [] va_S.rf s rfl (State.WarmedH.refl s)) hAe hI.2, fun U hU hW => ⟨rfl, by rw [hU], by rw [hU]; exact hI.1, va_K.moved hW.alike hK, hst _ _ hI.2 U hU hW⟩⟩ rfl rfl hl.1 rfl (lv_room (Nat.le_of_ble_eq_true rfl)) d_Js_charAt1_1 ⟨Nat.le_of_ble_eq_true rfl, Nat.le_of_ble_eq_true rfl⟩) hI.2 (fun q _ h => ga_sub hAC hA0 hI.2 q h) (ga_sub hAC hA0 hI.2) (fun v t H1 locs1 ht hWt hpost _ _ hS => ?_) (fun x t H1 locs1 ht hWt hpost _ _ hS => (hpost.2 x rfl).elim)
  rcases hpost.1 _ rfl with ⟨z20, hv, c21, c21_0, c21_1, hI1⟩
  cases hv
  have hI : sI (dC, dI) vcl cI cJ (gsC a he dp co li op wd tl lc fo sf lf nf) A s.heap H1 locs1 := ⟨by rw [← ht]; exact hI1, hS⟩
  clear hpost hI1 hS ht hWt
  revert hI; generalize H1 = H; generalize locs1 = locs; intro hI
  refine sn_if_eq (tgt := 16) hx hb d_Js_charAt1_4 (by decide) (fun b22 => ?_) (fun b22 => ?_)
  · omega
  · refine lv_aload_n hx hb d_Js_charAt1_7 rfl (lv_at hl 0 rfl) ?_
    refine sb_value hx hb (hst _ [] va_S.rf s rfl (State.WarmedH.refl s)) hAe hI.2 hown (hts _ mw_1551) d_Js_charAt1_8 ?_
    refine lv_iload_n hx hb d_Js_charAt1_11 rfl (lv_at hl 1 rfl) ?_
    refine tz_call (A1 := ga (adC a) H.size) (tz_runS (As := [.ref (a 106), .int x1]) (rest := []) ⟨hx, hb, hml, hown, hts⟩ (c_Jl_charAt2 l hfl dC dI cI cJ a H.size he dp co li op wd tl lc fo sf lf nf x1 c21 (by omega) (by omega)) (tx_cb (n := 2) hts rfl rfl ⟨Nat.le_of_ble_eq_true rfl, Nat.le_of_ble_eq_true rfl⟩ (tx_code.of (hts _ mw_671)) (hts _ mw_20) (by decide +kernel) (hts _ mw_669)) (hts _ mw_670) ⟨tz_blind, fun U hU hW => ⟨rfl, by rw [hU], by rw [hU]; exact hI.1, va_K.moved hW.alike hK, hst _ _ hI.2 U hU hW⟩⟩ rfl rfl hl.1 rfl (lv_room (Nat.le_of_ble_eq_true rfl)) d_Js_charAt1_12 ⟨Nat.le_of_ble_eq_true rfl, Nat.le_of_ble_eq_true rfl⟩) hI.2 (fun q _ h => ga_sub hAC hA0 hI.2 q h) (ga_sub hAC hA0 hI.2) (fun v t H1 locs1 ht hWt hpost _ _ hS => ?_) (fun x t H1 locs1 ht hWt hpost _ _ hS => (hpost.2 x rfl).elim)
    rcases hpost.1 _ rfl with ⟨z23, hv, c24, c24_0, c24_1, hI1⟩
    cases hv
    have hI : sI (dC, dI) vcl cI cJ (gsC a he dp co li op wd tl lc fo sf lf nf) A s.heap H1 locs1 := ⟨by rw [← ht]; exact hI1, hS⟩
    clear hpost hI1 hS ht hWt
    revert hI; generalize H1 = H; generalize locs1 = locs; intro hI
    subst hZ
    exact tz_ret (W.zret (v := z23) hx hb hr (sn_char (by omega) (by omega)) (fun t ht hW => ⟨⟨fun v9 hv9 => by cases hv9; exact (⟨z23, rfl, c24, by omega, by omega, by rw [ht]; exact hI.1⟩), fun x9 hx9 => (by cases hx9)⟩, hI.2.F ht⟩) hI.2.2.2 d_Js_charAt1_15)
abbrev q_Pr_putOf (dC : Nat → ClassId) (dI : Nat → Nat → Nat) (cI cJ : ClassId) (a : Nat → Nat) (he dp co li op wd tl lc fo : Int) (sf lf nf : Nat → Int32) (x1 : Int32) (x2 : Int32) : Outcome → State → Prop := fun o t => (∀ v, o = .returned v → ((v = none ∧ okC he dp co li op wd tl lc fo sf lf nf ∧ sh_I (dC, dI) vcl cI cJ (gsC a he dp co li op wd tl lc fo sf lf nf) t.heap))) ∧ (∀ x, o = .threw x → (False))
def rm_Pr_putOf : Room := { frames := 4, cells := 0, slots := 0, locals := 85 }
set_option maxHeartbeats 4000000 in
set_option maxRecDepth 100000 in
theorem c_Pr_putOf (l : Launch) (hfl : l.flags = pinnedFlags ++ [noTraceFlag]) (dC : Nat → ClassId) (dI : Nat → Nat → Nat) (cI cJ : ClassId) (a : Nat → Nat) (sz : Nat) (he dp co li op wd tl lc fo : Int) (sf lf nf : Nat → Int32) (x1 : Int32) (x2 : Int32) (hok : okC he dp co li op wd tl lc fo sf lf nf) (hp0 : 6 ≤ x2.toInt) (hp1 : x2.toInt ≤ 31) : tz_Met l ⟨"StoryMachine$Printer", "putOf", "(II)V"⟩ tw_tbl rm_Pr_putOf (tzP (dC, dI) vcl cI cJ (gsC a he dp co li op wd tl lc fo sf lf nf) a (adC a) [.ref (a 4), .int x1, .int x2] sz) (tq_Q (q_Pr_putOf dC dI cI cJ a he dp co li op wd tl lc fo sf lf nf x1 x2) (ga (adC a) sz)) 0 0 0 0 (ga (adC a) sz) := by
  refine tz_ofW (cc := prog_8_method_7_code) (maxL := 3) (ret := none) (by decide) (tx_isM mw_657) ?_
  intro p e s m args below meth c s₁ B hml hv
  obtain ⟨rfl, hsz, hI0, hK, hst0⟩ := hv
  have hx := B.exec
  have hb := B.bytes
  have hr := B.returns
  have hts := atoms_spec (ws := tw_tbl) B.pre
  have hown : s.vm.findClass "StoryMachine$Printer" = some m.cls := findClass_of_methodNamed B.named
  have hlocks := B.notSynchronized
  subst hsz
  have hst := fun (H : Heap) (locs : List Loc) (hS : va_S (ga (adC a) s.heap.size) s.heap H locs) (U : State) (hU : U.heap = H) (hW : s.WarmedH U.vm) => zS_all adC_map hI0 hst0 hS hU hW
  have hAC : ∀ q ∈ adC a, ga (adC a) s.heap.size q := fun q h => Or.inl h
  have hA0 : ∀ q, s.heap.size ≤ q → ga (adC a) s.heap.size q := fun q h => Or.inr h
  have hI : sI (dC, dI) vcl cI cJ (gsC a he dp co li op wd tl lc fo sf lf nf) (ga (adC a) s.heap.size) s.heap s.heap [] := ⟨hI0, va_S.rf⟩
  clear hI0 hst0
  have hl := lv_entry ([.ref (a 4), .int x1, .int x2]) (n := 3) (Nat.le_of_ble_eq_true rfl)
  rw [lg_entry_eq]
  generalize (lg_sl ([.ref (a 4), .int x1, .int x2]) ++ List.replicate (3 - (lg_sl ([.ref (a 4), .int x1, .int x2])).length) Slot.unset).toArray = ls at hl ⊢
  have hl : lv_has ls 3 [(0, .ref (a 4)), (1, .int x1), (2, .int x2)] := hl
  generalize hZ : tz_MQ below (tq_Q (q_Pr_putOf dC dI cI cJ a he dp co li op wd tl lc fo sf lf nf x1 x2) (ga (adC a) s.heap.size)) ([.ref (a 4), .int x1, .int x2] : List Value).toArray s 0 0 0 0 (ga (adC a) s.heap.size) = Z
  obtain ⟨A, hAe⟩ : ∃ A, A = ga (adC a) s.heap.size := ⟨_, rfl⟩
  rw [← hAe] at hst hAC hA0 hI hZ
  refine sv_start hI (fun H locs hI => ?_)
  obtain ⟨⟨o1, o2⟩, ⟨o3, o4⟩, ⟨o5, o6⟩, ⟨o7, o8⟩, ⟨o9, o10⟩, ⟨o11, o12⟩, ⟨o13, o14⟩, ⟨o15, o16⟩, ⟨o17, o18⟩, o19, -, -⟩ := id hok
  have gx1 := sn_rng x1
  have gx2 := sn_rng x2
  refine lv_iload_n hx hb d_Pr_putOf_0 rfl (lv_at hl 1 rfl) ?_
  refine sn_if_ne (tgt := 18) hx hb d_Pr_putOf_1 (by decide) (fun b20 => ?_) (fun b20 => ?_)
  · refine lv_iload_n hx hb d_Pr_putOf_18 rfl (lv_at hl 1 rfl) ?_
    refine sn_iconst hx hb d_Pr_putOf_19 (by decide) (fun z21 hz21 => ?_)
    refine sn_icmp_ne (tgt := 37) hx hb d_Pr_putOf_20 (by decide) (fun b22 => ?_) (fun b22 => ?_)
    · refine lv_iload_n hx hb d_Pr_putOf_37 rfl (lv_at hl 2 rfl) ?_
      refine sn_bipush hx hb d_Pr_putOf_38 (by decide) (fun z23 hz23 => ?_)
      refine sn_icmp_ne (tgt := 51) hx hb d_Pr_putOf_40 (by decide) (fun b24 => ?_) (fun b24 => ?_)
      · refine lv_iload_n hx hb d_Pr_putOf_51 rfl (lv_at hl 2 rfl) ?_
        refine sn_bipush hx hb d_Pr_putOf_52 (by decide) (fun z25 hz25 => ?_)
        refine sn_icmp_ne (tgt := 66) hx hb d_Pr_putOf_54 (by decide) (fun b26 => ?_) (fun b26 => ?_)
        · refine lv_aload_n hx hb d_Pr_putOf_66 rfl (lv_at hl 0 rfl) ?_
          refine va_ldcS hx hb hown (hst _ [] va_S.rf s rfl (State.WarmedH.refl s)).2.2.2.2.1 d_Pr_putOf_67 ?_
          refine lv_iload_n hx hb d_Pr_putOf_69 rfl (lv_at hl 2 rfl) ?_
          refine sn_bipush hx hb d_Pr_putOf_70 (by decide) (fun z27 hz27 => ?_)
          refine sn_isub hx hb d_Pr_putOf_72 (by omega) (by omega) (fun z28 hz28 => ?_)
          refine tz_call (A1 := ga (adC a) H.size) (tz_runV (C := "java/lang/String") (As := [.int z28]) (rest := [.ref (a 4)]) ⟨hx, hb, hml, hown, hts⟩ (c_Js_charAt1 l hfl dC dI cI cJ a H.size he dp co li op wd tl lc fo sf lf nf z28 hok (by omega) (by omega)) (tx_cb (n := 1) hts rfl rfl ⟨Nat.le_of_ble_eq_true rfl, Nat.le_of_ble_eq_true rfl⟩ (tx_code.of (hts _ mw_662)) (hts _ mw_19) (by decide +kernel) (hts _ mw_659)) (hts _ mw_660) (hts _ mw_661) ⟨tz_blind, sb_recv (hst _ [] va_S.rf s rfl (State.WarmedH.refl s)) hAe hI.2, fun U hU hW => ⟨rfl, by rw [hU], by rw [hU]; exact hI.1, va_K.moved hW.alike hK, hst _ _ hI.2 U hU hW⟩⟩ rfl rfl hl.1 rfl (lv_room (Nat.le_of_ble_eq_true rfl)) d_Pr_putOf_73 ⟨Nat.le_of_ble_eq_true rfl, Nat.le_of_ble_eq_true rfl⟩) hI.2 (fun q _ h => ga_sub hAC hA0 hI.2 q h) (ga_sub hAC hA0 hI.2) (fun v t H1 locs1 ht hWt hpost _ _ hS => ?_) (fun x t H1 locs1 ht hWt hpost _ _ hS => (hpost.2 x rfl).elim)
          rcases hpost.1 _ rfl with ⟨z29, hv, c30, c30_0, c30_1, hI1⟩
          cases hv
          have hI : sI (dC, dI) vcl cI cJ (gsC a he dp co li op wd tl lc fo sf lf nf) A s.heap H1 locs1 := ⟨by rw [← ht]; exact hI1, hS⟩
          clear hpost hI1 hS ht hWt
          revert hI; generalize H1 = H; generalize locs1 = locs; intro hI
          refine tz_call (A1 := ga (adC a) H.size) (tz_runV (C := "StoryMachine$Printer") (As := [.int z29]) (rest := []) ⟨hx, hb, hml, hown, hts⟩ (c_Pr_put l hfl dC dI cI cJ a H.size he dp co li op wd tl lc fo sf lf nf z29 c30) (tx_cb (n := 1) hts rfl rfl ⟨Nat.le_of_ble_eq_true rfl, Nat.le_of_ble_eq_true rfl⟩ (tx_code.of (hts _ mw_653)) (hts _ mw_5) (by decide +kernel) (hts _ mw_650)) (hts _ mw_651) (hts _ mw_652) ⟨tz_blind, sv_recv (q0 := 4) hts in_Pr hK hI kC_4 rfl, fun U hU hW => ⟨rfl, by rw [hU], by rw [hU]; exact hI.1, va_K.moved hW.alike hK, hst _ _ hI.2 U hU hW⟩⟩ rfl rfl hl.1 rfl (lv_room (Nat.le_of_ble_eq_true rfl)) d_Pr_putOf_76 ⟨Nat.le_of_ble_eq_true rfl, Nat.le_of_ble_eq_true rfl⟩) hI.2 (fun q _ h => ga_sub hAC hA0 hI.2 q h) (ga_sub hAC hA0 hI.2) (fun v t H1 locs1 ht hWt hpost _ _ hS => ?_) (fun x t H1 locs1 ht hWt hpost _ _ hS => (hpost.2 x rfl).elim)
          rcases hpost.1 _ rfl with ⟨hv, c31, hI1⟩
          cases hv
          have hI : sI (dC, dI) vcl cI cJ (gsC a he dp co li op wd tl lc fo sf lf nf) A s.heap H1 locs1 := ⟨by rw [← ht]; exact hI1, hS⟩
          clear hpost hI1 hS ht hWt
          revert hI; generalize H1 = H; generalize locs1 = locs; intro hI
          subst hZ
          exact tz_ret (W.vret hx hb hr (fun t ht hW => ⟨⟨fun v9 hv9 => by cases hv9; exact (⟨rfl, c31, by rw [ht]; exact hI.1⟩), fun x9 hx9 => (by cases hx9)⟩, hI.2.F ht⟩) hI.2.2.2 d_Pr_putOf_79)
        · refine lv_aload_n hx hb d_Pr_putOf_57 rfl (lv_at hl 0 rfl) ?_
          refine sn_bipush hx hb d_Pr_putOf_58 (by decide) (fun z32 hz32 => ?_)
          refine tz_call (A1 := ga (adC a) H.size) (tz_runV (C := "StoryMachine$Printer") (As := [.int z32]) (rest := []) ⟨hx, hb, hml, hown, hts⟩ (c_Pr_put l hfl dC dI cI cJ a H.size he dp co li op wd tl lc fo sf lf nf z32 hok) (tx_cb (n := 1) hts rfl rfl ⟨Nat.le_of_ble_eq_true rfl, Nat.le_of_ble_eq_true rfl⟩ (tx_code.of (hts _ mw_653)) (hts _ mw_5) (by decide +kernel) (hts _ mw_650)) (hts _ mw_651) (hts _ mw_652) ⟨tz_blind, sv_recv (q0 := 4) hts in_Pr hK hI kC_4 rfl, fun U hU hW => ⟨rfl, by rw [hU], by rw [hU]; exact hI.1, va_K.moved hW.alike hK, hst _ _ hI.2 U hU hW⟩⟩ rfl rfl hl.1 rfl (lv_room (Nat.le_of_ble_eq_true rfl)) d_Pr_putOf_60 ⟨Nat.le_of_ble_eq_true rfl, Nat.le_of_ble_eq_true rfl⟩) hI.2 (fun q _ h => ga_sub hAC hA0 hI.2 q h) (ga_sub hAC hA0 hI.2) (fun v t H1 locs1 ht hWt hpost _ _ hS => ?_) (fun x t H1 locs1 ht hWt hpost _ _ hS => (hpost.2 x rfl).elim)
          rcases hpost.1 _ rfl with ⟨hv, c33, hI1⟩
          cases hv
          have hI : sI (dC, dI) vcl cI cJ (gsC a he dp co li op wd tl lc fo sf lf nf) A s.heap H1 locs1 := ⟨by rw [← ht]; exact hI1, hS⟩
          clear hpost hI1 hS ht hWt
          revert hI; generalize H1 = H; generalize locs1 = locs; intro hI
          refine lv_goto (tgt := 79) hx hb d_Pr_putOf_63 (by decide) ?_
          subst hZ
          exact tz_ret (W.vret hx hb hr (fun t ht hW => ⟨⟨fun v9 hv9 => by cases hv9; exact (⟨rfl, c33, by rw [ht]; exact hI.1⟩), fun x9 hx9 => (by cases hx9)⟩, hI.2.F ht⟩) hI.2.2.2 d_Pr_putOf_79)
      · refine lv_aload_n hx hb d_Pr_putOf_43 rfl (lv_at hl 0 rfl) ?_
        refine sn_iconst hx hb d_Pr_putOf_44 (by decide) (fun z34 hz34 => ?_)
        refine sv_put (C := "StoryMachine$Printer") (T := T_Pr) (N := 5) (ty := .int) hx hb hts in_Pr t_Pr tk_Pr nm_Pr hown hK (sh_in adC_map hAC) hI 4 kC_4 rfl 3 (by decide) (hts _ mw_119) rfl (by decide +kernel) rfl rfl (Nat.le_of_ble_eq_true rfl) (by omega) (by omega) pC_4_3 d_Pr_putOf_45 (fun H locs hI => ?_)
        refine lv_goto (tgt := 79) hx hb d_Pr_putOf_48 (by decide) ?_
        subst hZ
        exact tz_ret (W.vret hx hb hr (fun t ht hW => ⟨⟨fun v9 hv9 => by cases hv9; exact (⟨rfl, hok, by rw [ht]; exact hI.1⟩), fun x9 hx9 => (by cases hx9)⟩, hI.2.F ht⟩) hI.2.2.2 d_Pr_putOf_79)
    · refine lv_aload_n hx hb d_Pr_putOf_23 rfl (lv_at hl 0 rfl) ?_
      refine sn_bipush hx hb d_Pr_putOf_24 (by decide) (fun z35 hz35 => ?_)
      refine lv_iload_n hx hb d_Pr_putOf_26 rfl (lv_at hl 2 rfl) ?_
      refine sn_iadd hx hb d_Pr_putOf_27 (by omega) (by omega) (fun z36 hz36 => ?_)
      refine sn_bipush hx hb d_Pr_putOf_28 (by decide) (fun z37 hz37 => ?_)
      refine sn_isub hx hb d_Pr_putOf_30 (by omega) (by omega) (fun z38 hz38 => ?_)
      refine tz_call (A1 := ga (adC a) H.size) (tz_runV (C := "StoryMachine$Printer") (As := [.int z38]) (rest := []) ⟨hx, hb, hml, hown, hts⟩ (c_Pr_put l hfl dC dI cI cJ a H.size he dp co li op wd tl lc fo sf lf nf z38 hok) (tx_cb (n := 1) hts rfl rfl ⟨Nat.le_of_ble_eq_true rfl, Nat.le_of_ble_eq_true rfl⟩ (tx_code.of (hts _ mw_653)) (hts _ mw_5) (by decide +kernel) (hts _ mw_650)) (hts _ mw_651) (hts _ mw_652) ⟨tz_blind, sv_recv (q0 := 4) hts in_Pr hK hI kC_4 rfl, fun U hU hW => ⟨rfl, by rw [hU], by rw [hU]; exact hI.1, va_K.moved hW.alike hK, hst _ _ hI.2 U hU hW⟩⟩ rfl rfl hl.1 rfl (lv_room (Nat.le_of_ble_eq_true rfl)) d_Pr_putOf_31 ⟨Nat.le_of_ble_eq_true rfl, Nat.le_of_ble_eq_true rfl⟩) hI.2 (fun q _ h => ga_sub hAC hA0 hI.2 q h) (ga_sub hAC hA0 hI.2) (fun v t H1 locs1 ht hWt hpost _ _ hS => ?_) (fun x t H1 locs1 ht hWt hpost _ _ hS => (hpost.2 x rfl).elim)
      rcases hpost.1 _ rfl with ⟨hv, c39, hI1⟩
      cases hv
      have hI : sI (dC, dI) vcl cI cJ (gsC a he dp co li op wd tl lc fo sf lf nf) A s.heap H1 locs1 := ⟨by rw [← ht]; exact hI1, hS⟩
      clear hpost hI1 hS ht hWt
      revert hI; generalize H1 = H; generalize locs1 = locs; intro hI
      refine lv_goto (tgt := 79) hx hb d_Pr_putOf_34 (by decide) ?_
      subst hZ
      exact tz_ret (W.vret hx hb hr (fun t ht hW => ⟨⟨fun v9 hv9 => by cases hv9; exact (⟨rfl, c39, by rw [ht]; exact hI.1⟩), fun x9 hx9 => (by cases hx9)⟩, hI.2.F ht⟩) hI.2.2.2 d_Pr_putOf_79)
  · refine lv_aload_n hx hb d_Pr_putOf_4 rfl (lv_at hl 0 rfl) ?_
    refine sn_bipush hx hb d_Pr_putOf_5 (by decide) (fun z40 hz40 => ?_)
    refine lv_iload_n hx hb d_Pr_putOf_7 rfl (lv_at hl 2 rfl) ?_
    refine sn_iadd hx hb d_Pr_putOf_8 (by omega) (by omega) (fun z41 hz41 => ?_)
    refine sn_bipush hx hb d_Pr_putOf_9 (by decide) (fun z42 hz42 => ?_)
    refine sn_isub hx hb d_Pr_putOf_11 (by omega) (by omega) (fun z43 hz43 => ?_)
    refine tz_call (A1 := ga (adC a) H.size) (tz_runV (C := "StoryMachine$Printer") (As := [.int z43]) (rest := []) ⟨hx, hb, hml, hown, hts⟩ (c_Pr_put l hfl dC dI cI cJ a H.size he dp co li op wd tl lc fo sf lf nf z43 hok) (tx_cb (n := 1) hts rfl rfl ⟨Nat.le_of_ble_eq_true rfl, Nat.le_of_ble_eq_true rfl⟩ (tx_code.of (hts _ mw_653)) (hts _ mw_5) (by decide +kernel) (hts _ mw_650)) (hts _ mw_651) (hts _ mw_652) ⟨tz_blind, sv_recv (q0 := 4) hts in_Pr hK hI kC_4 rfl, fun U hU hW => ⟨rfl, by rw [hU], by rw [hU]; exact hI.1, va_K.moved hW.alike hK, hst _ _ hI.2 U hU hW⟩⟩ rfl rfl hl.1 rfl (lv_room (Nat.le_of_ble_eq_true rfl)) d_Pr_putOf_12 ⟨Nat.le_of_ble_eq_true rfl, Nat.le_of_ble_eq_true rfl⟩) hI.2 (fun q _ h => ga_sub hAC hA0 hI.2 q h) (ga_sub hAC hA0 hI.2) (fun v t H1 locs1 ht hWt hpost _ _ hS => ?_) (fun x t H1 locs1 ht hWt hpost _ _ hS => (hpost.2 x rfl).elim)
    rcases hpost.1 _ rfl with ⟨hv, c44, hI1⟩
    cases hv
    have hI : sI (dC, dI) vcl cI cJ (gsC a he dp co li op wd tl lc fo sf lf nf) A s.heap H1 locs1 := ⟨by rw [← ht]; exact hI1, hS⟩
    clear hpost hI1 hS ht hWt
    revert hI; generalize H1 = H; generalize locs1 = locs; intro hI
    refine lv_goto (tgt := 79) hx hb d_Pr_putOf_15 (by decide) ?_
    subst hZ
    exact tz_ret (W.vret hx hb hr (fun t ht hW => ⟨⟨fun v9 hv9 => by cases hv9; exact (⟨rfl, c44, by rw [ht]; exact hI.1⟩), fun x9 hx9 => (by cases hx9)⟩, hI.2.F ht⟩) hI.2.2.2 d_Pr_putOf_79)
abbrev q_Pr_putLetter (dC : Nat → ClassId) (dI : Nat → Nat → Nat) (cI cJ : ClassId) (a : Nat → Nat) (he dp co li op wd tl lc fo : Int) (sf lf nf : Nat → Int32) (x1 : Int32) : Outcome → State → Prop := fun o t => (∀ v, o = .returned v → ((v = none ∧ okC he dp co li op wd tl lc fo sf lf nf ∧ sh_I (dC, dI) vcl cI cJ (gsC a he dp co li op wd tl lc fo sf lf nf) t.heap))) ∧ (∀ x, o = .threw x → (False))
def rm_Pr_putLetter : Room := { frames := 5, cells := 0, slots := 0, locals := 107 }
set_option maxHeartbeats 4000000 in
set_option maxRecDepth 100000 in
theorem c_Pr_putLetter (l : Launch) (hfl : l.flags = pinnedFlags ++ [noTraceFlag]) (dC : Nat → ClassId) (dI : Nat → Nat → Nat) (cI cJ : ClassId) (a : Nat → Nat) (sz : Nat) (he dp co li op wd tl lc fo : Int) (sf lf nf : Nat → Int32) (x1 : Int32) (hok : okC he dp co li op wd tl lc fo sf lf nf) (hp0 : 0 ≤ x1.toInt) (hp1 : x1.toInt ≤ 31) : tz_Met l ⟨"StoryMachine$Printer", "putLetter", "(I)V"⟩ tw_tbl rm_Pr_putLetter (tzP (dC, dI) vcl cI cJ (gsC a he dp co li op wd tl lc fo sf lf nf) a (adC a) [.ref (a 4), .int x1] sz) (tq_Q (q_Pr_putLetter dC dI cI cJ a he dp co li op wd tl lc fo sf lf nf x1) (ga (adC a) sz)) 0 0 0 0 (ga (adC a) sz) := by
  refine tz_ofW (cc := prog_8_method_6_code) (maxL := 3) (ret := none) (by decide) (tx_isM mw_649) ?_
  intro p e s m args below meth c s₁ B hml hv
  obtain ⟨rfl, hsz, hI0, hK, hst0⟩ := hv
  have hx := B.exec
  have hb := B.bytes
  have hr := B.returns
  have hts := atoms_spec (ws := tw_tbl) B.pre
  have hown : s.vm.findClass "StoryMachine$Printer" = some m.cls := findClass_of_methodNamed B.named
  have hlocks := B.notSynchronized
  subst hsz
  have hst := fun (H : Heap) (locs : List Loc) (hS : va_S (ga (adC a) s.heap.size) s.heap H locs) (U : State) (hU : U.heap = H) (hW : s.WarmedH U.vm) => zS_all adC_map hI0 hst0 hS hU hW
  have hAC : ∀ q ∈ adC a, ga (adC a) s.heap.size q := fun q h => Or.inl h
  have hA0 : ∀ q, s.heap.size ≤ q → ga (adC a) s.heap.size q := fun q h => Or.inr h
  have hI : sI (dC, dI) vcl cI cJ (gsC a he dp co li op wd tl lc fo sf lf nf) (ga (adC a) s.heap.size) s.heap s.heap [] := ⟨hI0, va_S.rf⟩
  clear hI0 hst0
  have hl := lv_entry ([.ref (a 4), .int x1]) (n := 3) (Nat.le_of_ble_eq_true rfl)
  rw [lg_entry_eq]
  generalize (lg_sl ([.ref (a 4), .int x1]) ++ List.replicate (3 - (lg_sl ([.ref (a 4), .int x1])).length) Slot.unset).toArray = ls at hl ⊢
  have hl : lv_has ls 3 [(0, .ref (a 4)), (1, .int x1)] := hl
  generalize hZ : tz_MQ below (tq_Q (q_Pr_putLetter dC dI cI cJ a he dp co li op wd tl lc fo sf lf nf x1) (ga (adC a) s.heap.size)) ([.ref (a 4), .int x1] : List Value).toArray s 0 0 0 0 (ga (adC a) s.heap.size) = Z
  obtain ⟨A, hAe⟩ : ∃ A, A = ga (adC a) s.heap.size := ⟨_, rfl⟩
  rw [← hAe] at hst hAC hA0 hI hZ
  refine sv_start hI (fun H locs hI => ?_)
  obtain ⟨⟨o1, o2⟩, ⟨o3, o4⟩, ⟨o5, o6⟩, ⟨o7, o8⟩, ⟨o9, o10⟩, ⟨o11, o12⟩, ⟨o13, o14⟩, ⟨o15, o16⟩, ⟨o17, o18⟩, o19, -, -⟩ := id hok
  have gx1 := sn_rng x1
  refine lv_aload_n hx hb d_Pr_putLetter_0 rfl (lv_at hl 0 rfl) ?_
  refine sv_get (C := "StoryMachine$Printer") (T := T_Pr) (N := 5) hx hb hts in_Pr hown hK hI 4 kC_4 rfl 3 (by decide) (hts _ mw_119) rfl d_Pr_putLetter_1 (fun z20 hz20a hz20b => ?_)
  refine lv_istore_n (lv' := [(2, .int z20), (0, .ref (a 4)), (1, .int x1)]) hx hb d_Pr_putLetter_4 rfl hl (by decide) rfl (fun ls hl => ?_)
  refine lv_aload_n hx hb d_Pr_putLetter_5 rfl (lv_at hl 1 rfl) ?_
  refine sn_iconst hx hb d_Pr_putLetter_6 (by decide) (fun z21 hz21 => ?_)
  refine sv_put (C := "StoryMachine$Printer") (T := T_Pr) (N := 5) (ty := .int) hx hb hts in_Pr t_Pr tk_Pr nm_Pr hown hK (sh_in adC_map hAC) hI 4 kC_4 rfl 3 (by decide) (hts _ mw_119) rfl (by decide +kernel) rfl rfl (Nat.le_of_ble_eq_true rfl) (by omega) (by omega) pC_4_3 d_Pr_putLetter_7 (fun H locs hI => ?_)
  refine lv_iload_n hx hb d_Pr_putLetter_10 rfl (lv_at hl 0 rfl) ?_
  refine sn_iconst hx hb d_Pr_putLetter_11 (by decide) (fun z22 hz22 => ?_)
  refine sn_icmp_ne (tgt := 28) hx hb d_Pr_putLetter_12 (by decide) (fun b23 => ?_) (fun b23 => ?_)
  · refine lv_iload_n hx hb d_Pr_putLetter_28 rfl (lv_at hl 0 rfl) ?_
    refine sn_iconst hx hb d_Pr_putLetter_29 (by decide) (fun z24 hz24 => ?_)
    refine sn_icmp_ne (tgt := 53) hx hb d_Pr_putLetter_30 (by decide) (fun b25 => ?_) (fun b25 => ?_)
    · refine lv_iload_n hx hb d_Pr_putLetter_53 rfl (lv_at hl 2 rfl) ?_
      refine sn_if_ne (tgt := 66) hx hb d_Pr_putLetter_54 (by decide) (fun b26 => ?_) (fun b26 => ?_)
      · refine lv_iload_n hx hb d_Pr_putLetter_66 rfl (lv_at hl 2 rfl) ?_
        refine sn_iconst hx hb d_Pr_putLetter_67 (by decide) (fun z27 hz27 => ?_)
        refine sn_icmp_ne (tgt := 79) hx hb d_Pr_putLetter_68 (by decide) (fun b28 => ?_) (fun b28 => ?_)
        · refine lv_iload_n hx hb d_Pr_putLetter_79 rfl (lv_at hl 2 rfl) ?_
          refine sn_iconst hx hb d_Pr_putLetter_80 (by decide) (fun z29 hz29 => ?_)
          refine sn_icmp_ne (tgt := 92) hx hb d_Pr_putLetter_81 (by decide) (fun b30 => ?_) (fun b30 => ?_)
          · refine lv_iload_n hx hb d_Pr_putLetter_92 rfl (lv_at hl 2 rfl) ?_
            refine sn_bipush hx hb d_Pr_putLetter_93 (by decide) (fun z31 hz31 => ?_)
            refine sn_icmp_lt (tgt := 104) hx hb d_Pr_putLetter_95 (by decide) (fun b32 => ?_) (fun b32 => ?_)
            · subst hZ
              exact tz_ret (W.vret hx hb hr (fun t ht hW => ⟨⟨fun v9 hv9 => by cases hv9; exact (⟨rfl, hok, by rw [ht]; exact hI.1⟩), fun x9 hx9 => (by cases hx9)⟩, hI.2.F ht⟩) hI.2.2.2 d_Pr_putLetter_104)
            · refine lv_aload_n hx hb d_Pr_putLetter_98 rfl (lv_at hl 1 rfl) ?_
              refine lv_iload_n hx hb d_Pr_putLetter_99 rfl (lv_at hl 0 rfl) ?_
              refine lv_iload_n hx hb d_Pr_putLetter_100 rfl (lv_at hl 2 rfl) ?_
              refine tz_call (A1 := ga (adC a) H.size) (tz_runV (C := "StoryMachine$Printer") (As := [.int z20, .int x1]) (rest := []) ⟨hx, hb, hml, hown, hts⟩ (c_Pr_putOf l hfl dC dI cI cJ a H.size he dp co li op wd tl lc fo sf lf nf z20 x1 hok (by omega) (by omega)) (tx_cb (n := 2) hts rfl rfl ⟨Nat.le_of_ble_eq_true rfl, Nat.le_of_ble_eq_true rfl⟩ (tx_code.of (hts _ mw_657)) (hts _ mw_5) (by decide +kernel) (hts _ mw_654)) (hts _ mw_656) (hts _ ms_Pr_putOf) ⟨tz_blind, sv_recv (q0 := 4) hts in_Pr hK hI kC_4 rfl, fun U hU hW => ⟨rfl, by rw [hU], by rw [hU]; exact hI.1, va_K.moved hW.alike hK, hst _ _ hI.2 U hU hW⟩⟩ rfl rfl hl.1 rfl (lv_room (Nat.le_of_ble_eq_true rfl)) d_Pr_putLetter_101 ⟨Nat.le_of_ble_eq_true rfl, Nat.le_of_ble_eq_true rfl⟩) hI.2 (fun q _ h => ga_sub hAC hA0 hI.2 q h) (ga_sub hAC hA0 hI.2) (fun v t H1 locs1 ht hWt hpost _ _ hS => ?_) (fun x t H1 locs1 ht hWt hpost _ _ hS => (hpost.2 x rfl).elim)
              rcases hpost.1 _ rfl with ⟨hv, c33, hI1⟩
              cases hv
              have hI : sI (dC, dI) vcl cI cJ (gsC a he dp co li op wd tl lc fo sf lf nf) A s.heap H1 locs1 := ⟨by rw [← ht]; exact hI1, hS⟩
              clear hpost hI1 hS ht hWt
              revert hI; generalize H1 = H; generalize locs1 = locs; intro hI
              subst hZ
              exact tz_ret (W.vret hx hb hr (fun t ht hW => ⟨⟨fun v9 hv9 => by cases hv9; exact (⟨rfl, c33, by rw [ht]; exact hI.1⟩), fun x9 hx9 => (by cases hx9)⟩, hI.2.F ht⟩) hI.2.2.2 d_Pr_putLetter_104)
          · refine lv_aload_n hx hb d_Pr_putLetter_84 rfl (lv_at hl 1 rfl) ?_
            refine sn_iconst hx hb d_Pr_putLetter_85 (by decide) (fun z34 hz34 => ?_)
            refine sv_put (C := "StoryMachine$Printer") (T := T_Pr) (N := 5) (ty := .int) hx hb hts in_Pr t_Pr tk_Pr nm_Pr hown hK (sh_in adC_map hAC) hI 4 kC_4 rfl 3 (by decide) (hts _ mw_119) rfl (by decide +kernel) rfl rfl (Nat.le_of_ble_eq_true rfl) (by omega) (by omega) pC_4_3 d_Pr_putLetter_86 (fun H locs hI => ?_)
            refine lv_goto (tgt := 104) hx hb d_Pr_putLetter_89 (by decide) ?_
            subst hZ
            exact tz_ret (W.vret hx hb hr (fun t ht hW => ⟨⟨fun v9 hv9 => by cases hv9; exact (⟨rfl, hok, by rw [ht]; exact hI.1⟩), fun x9 hx9 => (by cases hx9)⟩, hI.2.F ht⟩) hI.2.2.2 d_Pr_putLetter_104)
        · refine lv_aload_n hx hb d_Pr_putLetter_71 rfl (lv_at hl 1 rfl) ?_
          refine sn_iconst hx hb d_Pr_putLetter_72 (by decide) (fun z35 hz35 => ?_)
          refine sv_put (C := "StoryMachine$Printer") (T := T_Pr) (N := 5) (ty := .int) hx hb hts in_Pr t_Pr tk_Pr nm_Pr hown hK (sh_in adC_map hAC) hI 4 kC_4 rfl 3 (by decide) (hts _ mw_119) rfl (by decide +kernel) rfl rfl (Nat.le_of_ble_eq_true rfl) (by omega) (by omega) pC_4_3 d_Pr_putLetter_73 (fun H locs hI => ?_)
          refine lv_goto (tgt := 104) hx hb d_Pr_putLetter_76 (by decide) ?_
          subst hZ
          exact tz_ret (W.vret hx hb hr (fun t ht hW => ⟨⟨fun v9 hv9 => by cases hv9; exact (⟨rfl, hok, by rw [ht]; exact hI.1⟩), fun x9 hx9 => (by cases hx9)⟩, hI.2.F ht⟩) hI.2.2.2 d_Pr_putLetter_104)
      · refine lv_aload_n hx hb d_Pr_putLetter_57 rfl (lv_at hl 1 rfl) ?_
        refine sn_bipush hx hb d_Pr_putLetter_58 (by decide) (fun z36 hz36 => ?_)
        refine tz_call (A1 := ga (adC a) H.size) (tz_runV (C := "StoryMachine$Printer") (As := [.int z36]) (rest := []) ⟨hx, hb, hml, hown, hts⟩ (c_Pr_put l hfl dC dI cI cJ a H.size he dp co li op wd tl lc fo sf lf nf z36 hok) (tx_cb (n := 1) hts rfl rfl ⟨Nat.le_of_ble_eq_true rfl, Nat.le_of_ble_eq_true rfl⟩ (tx_code.of (hts _ mw_653)) (hts _ mw_5) (by decide +kernel) (hts _ mw_650)) (hts _ mw_651) (hts _ mw_652) ⟨tz_blind, sv_recv (q0 := 4) hts in_Pr hK hI kC_4 rfl, fun U hU hW => ⟨rfl, by rw [hU], by rw [hU]; exact hI.1, va_K.moved hW.alike hK, hst _ _ hI.2 U hU hW⟩⟩ rfl rfl hl.1 rfl (lv_room (Nat.le_of_ble_eq_true rfl)) d_Pr_putLetter_60 ⟨Nat.le_of_ble_eq_true rfl, Nat.le_of_ble_eq_true rfl⟩) hI.2 (fun q _ h => ga_sub hAC hA0 hI.2 q h) (ga_sub hAC hA0 hI.2) (fun v t H1 locs1 ht hWt hpost _ _ hS => ?_) (fun x t H1 locs1 ht hWt hpost _ _ hS => (hpost.2 x rfl).elim)
        rcases hpost.1 _ rfl with ⟨hv, c37, hI1⟩
        cases hv
        have hI : sI (dC, dI) vcl cI cJ (gsC a he dp co li op wd tl lc fo sf lf nf) A s.heap H1 locs1 := ⟨by rw [← ht]; exact hI1, hS⟩
        clear hpost hI1 hS ht hWt
        revert hI; generalize H1 = H; generalize locs1 = locs; intro hI
        refine lv_goto (tgt := 104) hx hb d_Pr_putLetter_63 (by decide) ?_
        subst hZ
        exact tz_ret (W.vret hx hb hr (fun t ht hW => ⟨⟨fun v9 hv9 => by cases hv9; exact (⟨rfl, c37, by rw [ht]; exact hI.1⟩), fun x9 hx9 => (by cases hx9)⟩, hI.2.F ht⟩) hI.2.2.2 d_Pr_putLetter_104)
    · refine lv_aload_n hx hb d_Pr_putLetter_33 rfl (lv_at hl 1 rfl) ?_
      refine sn_bipush hx hb d_Pr_putLetter_34 (by decide) (fun z38 hz38 => ?_)
      refine lv_aload_n hx hb d_Pr_putLetter_36 rfl (lv_at hl 1 rfl) ?_
      refine sv_get (C := "StoryMachine$Printer") (T := T_Pr) (N := 5) hx hb hts in_Pr hown hK hI 4 kC_4 rfl 4 (by decide) (hts _ mw_120) rfl d_Pr_putLetter_37 (fun z39 hz39a hz39b => ?_)
      refine sn_imulT hx hb d_Pr_putLetter_40 (fun z40 hz40a hz40b => ?_)
      refine lv_iload_n hx hb d_Pr_putLetter_41 rfl (lv_at hl 2 rfl) ?_
      refine sn_iaddT hx hb d_Pr_putLetter_42 (fun z41 hz41a hz41b => ?_)
      refine sn_sipush hx hb d_Pr_putLetter_43 (by decide) (fun z42 hz42 => ?_)
      refine sn_iand (k := 8) (M := 255) hx hb d_Pr_putLetter_46 (by decide) (by decide) (by omega) (fun z43 hz43a hz43b hz43c => ?_)
      clear hz43c
      refine tz_call (A1 := ga (adC a) H.size) (tz_runV (C := "StoryMachine$Printer") (As := [.int z43]) (rest := []) ⟨hx, hb, hml, hown, hts⟩ (c_Pr_put l hfl dC dI cI cJ a H.size he dp co li op wd tl lc fo sf lf nf z43 hok) (tx_cb (n := 1) hts rfl rfl ⟨Nat.le_of_ble_eq_true rfl, Nat.le_of_ble_eq_true rfl⟩ (tx_code.of (hts _ mw_653)) (hts _ mw_5) (by decide +kernel) (hts _ mw_650)) (hts _ mw_651) (hts _ mw_652) ⟨tz_blind, sv_recv (q0 := 4) hts in_Pr hK hI kC_4 rfl, fun U hU hW => ⟨rfl, by rw [hU], by rw [hU]; exact hI.1, va_K.moved hW.alike hK, hst _ _ hI.2 U hU hW⟩⟩ rfl rfl hl.1 rfl (lv_room (Nat.le_of_ble_eq_true rfl)) d_Pr_putLetter_47 ⟨Nat.le_of_ble_eq_true rfl, Nat.le_of_ble_eq_true rfl⟩) hI.2 (fun q _ h => ga_sub hAC hA0 hI.2 q h) (ga_sub hAC hA0 hI.2) (fun v t H1 locs1 ht hWt hpost _ _ hS => ?_) (fun x t H1 locs1 ht hWt hpost _ _ hS => (hpost.2 x rfl).elim)
      rcases hpost.1 _ rfl with ⟨hv, c44, hI1⟩
      cases hv
      have hI : sI (dC, dI) vcl cI cJ (gsC a he dp co li op wd tl lc fo sf lf nf) A s.heap H1 locs1 := ⟨by rw [← ht]; exact hI1, hS⟩
      clear hpost hI1 hS ht hWt
      revert hI; generalize H1 = H; generalize locs1 = locs; intro hI
      refine lv_goto (tgt := 104) hx hb d_Pr_putLetter_50 (by decide) ?_
      subst hZ
      exact tz_ret (W.vret hx hb hr (fun t ht hW => ⟨⟨fun v9 hv9 => by cases hv9; exact (⟨rfl, c44, by rw [ht]; exact hI.1⟩), fun x9 hx9 => (by cases hx9)⟩, hI.2.F ht⟩) hI.2.2.2 d_Pr_putLetter_104)
  · refine lv_aload_n hx hb d_Pr_putLetter_15 rfl (lv_at hl 1 rfl) ?_
    refine lv_iload_n hx hb d_Pr_putLetter_16 rfl (lv_at hl 2 rfl) ?_
    refine sv_put (C := "StoryMachine$Printer") (T := T_Pr) (N := 5) (ty := .int) hx hb hts in_Pr t_Pr tk_Pr nm_Pr hown hK (sh_in adC_map hAC) hI 4 kC_4 rfl 4 (by decide) (hts _ mw_120) rfl (by decide +kernel) rfl rfl (Nat.le_of_ble_eq_true rfl) (by omega) (by omega) pC_4_4 d_Pr_putLetter_17 (fun H locs hI => ?_)
    refine lv_aload_n hx hb d_Pr_putLetter_20 rfl (lv_at hl 1 rfl) ?_
    refine sn_iconst hx hb d_Pr_putLetter_21 (by decide) (fun z45 hz45 => ?_)
    refine sv_put (C := "StoryMachine$Printer") (T := T_Pr) (N := 5) (ty := .int) hx hb hts in_Pr t_Pr tk_Pr nm_Pr hown hK (sh_in adC_map hAC) hI 4 kC_4 rfl 3 (by decide) (hts _ mw_119) rfl (by decide +kernel) rfl rfl (Nat.le_of_ble_eq_true rfl) (by omega) (by omega) pC_4_3 d_Pr_putLetter_22 (fun H locs hI => ?_)
    refine lv_goto (tgt := 104) hx hb d_Pr_putLetter_25 (by decide) ?_
    subst hZ
    exact tz_ret (W.vret hx hb hr (fun t ht hW => ⟨⟨fun v9 hv9 => by cases hv9; exact (⟨rfl, hok, by rw [ht]; exact hI.1⟩), fun x9 hx9 => (by cases hx9)⟩, hI.2.F ht⟩) hI.2.2.2 d_Pr_putLetter_104)
abbrev q_Pr_putText (dC : Nat → ClassId) (dI : Nat → Nat → Nat) (cI cJ : ClassId) (a : Nat → Nat) (he dp co li op wd tl lc fo : Int) (sf lf nf : Nat → Int32) (x1 : Int32) : Outcome → State → Prop := fun o t => (∀ v, o = .returned v → ((∃ (z : Int32), v = some (.int z) ∧ okC he dp co li op wd tl lc fo sf lf nf ∧ (2 ≤ z.toInt) ∧ (z.toInt ≤ 512) ∧ sh_I (dC, dI) vcl cI cJ (gsC a he dp co li op wd tl lc fo sf lf nf) t.heap))) ∧ (∀ x, o = .threw x → ((ta_Ex "java/lang/IllegalArgumentException" x t ∧ okC he dp co li op wd tl lc fo sf lf nf ∧ sh_I (dC, dI) vcl cI cJ (gsC a he dp co li op wd tl lc fo sf lf nf) t.heap)))
def rm_Pr_putText : Room := { frames := 8, cells := 1, slots := 6, locals := 151 }
set_option maxHeartbeats 4000000 in
set_option maxRecDepth 100000 in
theorem c_Pr_putText (l : Launch) (hfl : l.flags = pinnedFlags ++ [noTraceFlag]) (dC : Nat → ClassId) (dI : Nat → Nat → Nat) (cI cJ : ClassId) (a : Nat → Nat) (sz : Nat) (he dp co li op wd tl lc fo : Int) (sf lf nf : Nat → Int32) (x1 : Int32) (hok : okC he dp co li op wd tl lc fo sf lf nf) : tz_Met l ⟨"StoryMachine$Printer", "putText", "(I)I"⟩ tw_tbl rm_Pr_putText (tzP (dC, dI) vcl cI cJ (gsC a he dp co li op wd tl lc fo sf lf nf) a (adC a) [.ref (a 4), .int x1] sz) (tq_Q (q_Pr_putText dC dI cI cJ a he dp co li op wd tl lc fo sf lf nf x1) (ga (adC a) sz)) 0 0 1 6 (ga (adC a) sz) := by
  refine tz_ofW (cc := prog_8_method_5_code) (maxL := 4) (ret := (some .int)) (by decide) (tx_isM mw_644) ?_
  intro p e s m args below meth c s₁ B hml hv
  obtain ⟨rfl, hsz, hI0, hK, hst0⟩ := hv
  have hx := B.exec
  have hb := B.bytes
  have hr := B.returns
  have hts := atoms_spec (ws := tw_tbl) B.pre
  have hown : s.vm.findClass "StoryMachine$Printer" = some m.cls := findClass_of_methodNamed B.named
  have hlocks := B.notSynchronized
  subst hsz
  have hst := fun (H : Heap) (locs : List Loc) (hS : va_S (ga (adC a) s.heap.size) s.heap H locs) (U : State) (hU : U.heap = H) (hW : s.WarmedH U.vm) => zS_all adC_map hI0 hst0 hS hU hW
  have hAC : ∀ q ∈ adC a, ga (adC a) s.heap.size q := fun q h => Or.inl h
  have hA0 : ∀ q, s.heap.size ≤ q → ga (adC a) s.heap.size q := fun q h => Or.inr h
  have hI : sI (dC, dI) vcl cI cJ (gsC a he dp co li op wd tl lc fo sf lf nf) (ga (adC a) s.heap.size) s.heap s.heap [] := ⟨hI0, va_S.rf⟩
  clear hI0 hst0
  have hl := lv_entry ([.ref (a 4), .int x1]) (n := 4) (Nat.le_of_ble_eq_true rfl)
  rw [lg_entry_eq]
  generalize (lg_sl ([.ref (a 4), .int x1]) ++ List.replicate (4 - (lg_sl ([.ref (a 4), .int x1])).length) Slot.unset).toArray = ls at hl ⊢
  have hl : lv_has ls 4 [(0, .ref (a 4)), (1, .int x1)] := hl
  generalize hZ : tz_MQ below (tq_Q (q_Pr_putText dC dI cI cJ a he dp co li op wd tl lc fo sf lf nf x1) (ga (adC a) s.heap.size)) ([.ref (a 4), .int x1] : List Value).toArray s 0 0 1 6 (ga (adC a) s.heap.size) = Z
  obtain ⟨A, hAe⟩ : ∃ A, A = ga (adC a) s.heap.size := ⟨_, rfl⟩
  rw [← hAe] at hst hAC hA0 hI hZ
  refine sv_start hI (fun H locs hI => ?_)
  obtain ⟨⟨o1, o2⟩, ⟨o3, o4⟩, ⟨o5, o6⟩, ⟨o7, o8⟩, ⟨o9, o10⟩, ⟨o11, o12⟩, ⟨o13, o14⟩, ⟨o15, o16⟩, ⟨o17, o18⟩, o19, -, -⟩ := id hok
  have gx1 := sn_rng x1
  have j7 : ∀ (n : Nat) (H : Heap) (locs : List Loc) (ls : Array Slot) (v7_2 : Int32), sI (dC, dI) vcl cI cJ (gsC a he dp co li op wd tl lc fo sf lf nf) A s.heap H locs → okC he dp co li op wd tl lc fo sf lf nf → (-2147483648) ≤ v7_2.toInt → v7_2.toInt ≤ 2147483647 → lv_has ls 4 [(0, .ref (a 4)), (1, .int x1), (2, .int v7_2)] → 2147483647 - v7_2.toInt < (n : Int) → W p l e (headSpec tw_tbl rm_Pr_putText).room s m ([.ref (a 4), .int x1] : List Value).toArray below meth c H locs 0 0 Z (F0 m 7 ls []) := by
    intro n
    induction n with
    | zero => intro H locs ls v7_2 hI hok g7_0 g7_1 hl hme; exfalso; obtain ⟨⟨o20, o21⟩, ⟨o22, o23⟩, ⟨o24, o25⟩, ⟨o26, o27⟩, ⟨o28, o29⟩, ⟨o30, o31⟩, ⟨o32, o33⟩, ⟨o34, o35⟩, ⟨o36, o37⟩, o38, -, -⟩ := id hok; omega
    | succ n ih =>
      intro H locs ls v7_2 hI hok g7_0 g7_1 hl hme
      obtain ⟨⟨o39, o40⟩, ⟨o41, o42⟩, ⟨o43, o44⟩, ⟨o45, o46⟩, ⟨o47, o48⟩, ⟨o49, o50⟩, ⟨o51, o52⟩, ⟨o53, o54⟩, ⟨o55, o56⟩, o57, -, -⟩ := id hok
      refine lv_iload_n hx hb d_Pr_putText_7 rfl (lv_at hl 2 rfl) ?_
      refine sn_sipush hx hb d_Pr_putText_8 (by decide) (fun z58 hz58 => ?_)
      refine sn_icmp_ge (tgt := 68) hx hb d_Pr_putText_11 (by decide) (fun b59 => ?_) (fun b59 => ?_)
      · refine W.widen (k := 0) (n := 0) (Nat.le_of_ble_eq_true rfl) (Nat.le_of_ble_eq_true rfl) ?_
        subst hZ
        exact tz_thrown (tth_Pr_IllegalArgumentException hx hb hfl hown hts (fun U hU hW => (hst _ _ hI.2 U hU hW).1) (by rw [hml]; exact hl.1) d_Pr_putText_68 d_Pr_putText_71 d_Pr_putText_72 d_Pr_putText_75 (tx_noH B (hts _ mw_644) _) (Nat.le_of_ble_eq_true rfl) (Nat.le_of_ble_eq_true rfl) (Nat.le_of_ble_eq_true rfl) (Nat.le_of_ble_eq_true rfl) (fun t ce hW hz hk hce hcl hvm => ⟨⟨⟨fun v9 hv9 => (by cases hv9), fun x9 hx9 => by cases hx9; exact (⟨⟨ce, hce, hcl, hvm⟩, hok, sh_kept hI.1 hk⟩)⟩, ta_thrown hI.2 hz hk⟩, _, rfl⟩) hI.2.2.2 hlocks)
      · refine lv_aload_n hx hb d_Pr_putText_14 rfl (lv_at hl 0 rfl) ?_
        refine sv_getr (C := "StoryMachine$Printer") (T := T_Pr) (N := 5) hx hb hts in_Pr hown hK hI 4 kC_4 rfl 0 (by decide) (hts _ mw_114) rfl d_Pr_putText_15 ?_
        refine lv_iload_n hx hb d_Pr_putText_18 rfl (lv_at hl 2 rfl) ?_
        refine tz_call (A1 := ga (adC a) H.size) (tz_runV (C := "StoryMachine$Memory") (As := [.int v7_2]) (rest := []) ⟨hx, hb, hml, hown, hts⟩ (c_Me_wordAt l hfl dC dI cI cJ a H.size he dp co li op wd tl lc fo sf lf nf v7_2 hok) (tx_cb (n := 1) hts rfl rfl ⟨Nat.le_of_ble_eq_true rfl, Nat.le_of_ble_eq_true rfl⟩ (tx_code.of (hts _ mw_440)) (hts _ mw_2) (by decide +kernel) (hts _ mw_645)) (hts _ mw_438) (hts _ mw_439) ⟨tz_blind, sv_recv (q0 := 1) hts in_Me hK hI kC_1 rfl, fun U hU hW => ⟨rfl, by rw [hU], by rw [hU]; exact hI.1, va_K.moved hW.alike hK, hst _ _ hI.2 U hU hW⟩⟩ rfl rfl hl.1 rfl (lv_room (Nat.le_of_ble_eq_true rfl)) d_Pr_putText_19 ⟨Nat.le_of_ble_eq_true rfl, Nat.le_of_ble_eq_true rfl⟩) hI.2 (fun q _ h => ga_sub hAC hA0 hI.2 q h) (ga_sub hAC hA0 hI.2) (fun v t H1 locs1 ht hWt hpost _ _ hS => ?_) (fun x t H1 locs1 ht hWt hpost _ _ hS => ?_)
        · rcases hpost.1 _ rfl with ⟨z60, hv, c61, c61_0, c61_1, c61_2, c61_3, hI1⟩
          cases hv
          have hI : sI (dC, dI) vcl cI cJ (gsC a he dp co li op wd tl lc fo sf lf nf) A s.heap H1 locs1 := ⟨by rw [← ht]; exact hI1, hS⟩
          clear hpost hI1 hS ht hWt
          revert hI; generalize H1 = H; generalize locs1 = locs; intro hI
          refine lv_istore_n (lv' := [(3, .int z60), (0, .ref (a 4)), (1, .int x1), (2, .int v7_2)]) hx hb d_Pr_putText_22 rfl hl (by decide) rfl (fun ls hl => ?_)
          refine lv_aload_n hx hb d_Pr_putText_23 rfl (lv_at hl 1 rfl) ?_
          refine lv_iload_n hx hb d_Pr_putText_24 rfl (lv_at hl 0 rfl) ?_
          refine sn_bipush hx hb d_Pr_putText_25 (by decide) (fun z62 hz62 => ?_)
          refine sn_ishrT hx hb d_Pr_putText_27 (fun z63 hz63a hz63b => ?_)
          refine sn_bipush hx hb d_Pr_putText_28 (by decide) (fun z64 hz64 => ?_)
          refine sn_iand (k := 5) (M := 31) hx hb d_Pr_putText_30 (by decide) (by decide) (by omega) (fun z65 hz65a hz65b hz65c => ?_)
          clear hz65c
          refine tz_call (A1 := ga (adC a) H.size) (tz_runV (C := "StoryMachine$Printer") (As := [.int z65]) (rest := []) ⟨hx, hb, hml, hown, hts⟩ (c_Pr_putLetter l hfl dC dI cI cJ a H.size he dp co li op wd tl lc fo sf lf nf z65 c61 (by omega) (by omega)) (tx_cb (n := 1) hts rfl rfl ⟨Nat.le_of_ble_eq_true rfl, Nat.le_of_ble_eq_true rfl⟩ (tx_code.of (hts _ mw_649)) (hts _ mw_5) (by decide +kernel) (hts _ mw_646)) (hts _ mw_648) (hts _ ms_Pr_putLetter) ⟨tz_blind, sv_recv (q0 := 4) hts in_Pr hK hI kC_4 rfl, fun U hU hW => ⟨rfl, by rw [hU], by rw [hU]; exact hI.1, va_K.moved hW.alike hK, hst _ _ hI.2 U hU hW⟩⟩ rfl rfl hl.1 rfl (lv_room (Nat.le_of_ble_eq_true rfl)) d_Pr_putText_31 ⟨Nat.le_of_ble_eq_true rfl, Nat.le_of_ble_eq_true rfl⟩) hI.2 (fun q _ h => ga_sub hAC hA0 hI.2 q h) (ga_sub hAC hA0 hI.2) (fun v t H1 locs1 ht hWt hpost _ _ hS => ?_) (fun x t H1 locs1 ht hWt hpost _ _ hS => (hpost.2 x rfl).elim)
          rcases hpost.1 _ rfl with ⟨hv, c66, hI1⟩
          cases hv
          have hI : sI (dC, dI) vcl cI cJ (gsC a he dp co li op wd tl lc fo sf lf nf) A s.heap H1 locs1 := ⟨by rw [← ht]; exact hI1, hS⟩
          clear hpost hI1 hS ht hWt
          revert hI; generalize H1 = H; generalize locs1 = locs; intro hI
          refine lv_aload_n hx hb d_Pr_putText_34 rfl (lv_at hl 1 rfl) ?_
          refine lv_iload_n hx hb d_Pr_putText_35 rfl (lv_at hl 0 rfl) ?_
          refine sn_iconst hx hb d_Pr_putText_36 (by decide) (fun z67 hz67 => ?_)
          refine sn_ishrT hx hb d_Pr_putText_37 (fun z68 hz68a hz68b => ?_)
          refine sn_bipush hx hb d_Pr_putText_38 (by decide) (fun z69 hz69 => ?_)
          refine sn_iand (k := 5) (M := 31) hx hb d_Pr_putText_40 (by decide) (by decide) (by omega) (fun z70 hz70a hz70b hz70c => ?_)
          clear hz70c
          refine tz_call (A1 := ga (adC a) H.size) (tz_runV (C := "StoryMachine$Printer") (As := [.int z70]) (rest := []) ⟨hx, hb, hml, hown, hts⟩ (c_Pr_putLetter l hfl dC dI cI cJ a H.size he dp co li op wd tl lc fo sf lf nf z70 c66 (by omega) (by omega)) (tx_cb (n := 1) hts rfl rfl ⟨Nat.le_of_ble_eq_true rfl, Nat.le_of_ble_eq_true rfl⟩ (tx_code.of (hts _ mw_649)) (hts _ mw_5) (by decide +kernel) (hts _ mw_646)) (hts _ mw_648) (hts _ ms_Pr_putLetter) ⟨tz_blind, sv_recv (q0 := 4) hts in_Pr hK hI kC_4 rfl, fun U hU hW => ⟨rfl, by rw [hU], by rw [hU]; exact hI.1, va_K.moved hW.alike hK, hst _ _ hI.2 U hU hW⟩⟩ rfl rfl hl.1 rfl (lv_room (Nat.le_of_ble_eq_true rfl)) d_Pr_putText_41 ⟨Nat.le_of_ble_eq_true rfl, Nat.le_of_ble_eq_true rfl⟩) hI.2 (fun q _ h => ga_sub hAC hA0 hI.2 q h) (ga_sub hAC hA0 hI.2) (fun v t H1 locs1 ht hWt hpost _ _ hS => ?_) (fun x t H1 locs1 ht hWt hpost _ _ hS => (hpost.2 x rfl).elim)
          rcases hpost.1 _ rfl with ⟨hv, c71, hI1⟩
          cases hv
          have hI : sI (dC, dI) vcl cI cJ (gsC a he dp co li op wd tl lc fo sf lf nf) A s.heap H1 locs1 := ⟨by rw [← ht]; exact hI1, hS⟩
          clear hpost hI1 hS ht hWt
          revert hI; generalize H1 = H; generalize locs1 = locs; intro hI
          refine lv_aload_n hx hb d_Pr_putText_44 rfl (lv_at hl 1 rfl) ?_
          refine lv_iload_n hx hb d_Pr_putText_45 rfl (lv_at hl 0 rfl) ?_
          refine sn_bipush hx hb d_Pr_putText_46 (by decide) (fun z72 hz72 => ?_)
          refine sn_iand (k := 5) (M := 31) hx hb d_Pr_putText_48 (by decide) (by decide) (by omega) (fun z73 hz73a hz73b hz73c => ?_)
          clear hz73c
          refine tz_call (A1 := ga (adC a) H.size) (tz_runV (C := "StoryMachine$Printer") (As := [.int z73]) (rest := []) ⟨hx, hb, hml, hown, hts⟩ (c_Pr_putLetter l hfl dC dI cI cJ a H.size he dp co li op wd tl lc fo sf lf nf z73 c71 (by omega) (by omega)) (tx_cb (n := 1) hts rfl rfl ⟨Nat.le_of_ble_eq_true rfl, Nat.le_of_ble_eq_true rfl⟩ (tx_code.of (hts _ mw_649)) (hts _ mw_5) (by decide +kernel) (hts _ mw_646)) (hts _ mw_648) (hts _ ms_Pr_putLetter) ⟨tz_blind, sv_recv (q0 := 4) hts in_Pr hK hI kC_4 rfl, fun U hU hW => ⟨rfl, by rw [hU], by rw [hU]; exact hI.1, va_K.moved hW.alike hK, hst _ _ hI.2 U hU hW⟩⟩ rfl rfl hl.1 rfl (lv_room (Nat.le_of_ble_eq_true rfl)) d_Pr_putText_49 ⟨Nat.le_of_ble_eq_true rfl, Nat.le_of_ble_eq_true rfl⟩) hI.2 (fun q _ h => ga_sub hAC hA0 hI.2 q h) (ga_sub hAC hA0 hI.2) (fun v t H1 locs1 ht hWt hpost _ _ hS => ?_) (fun x t H1 locs1 ht hWt hpost _ _ hS => (hpost.2 x rfl).elim)
          rcases hpost.1 _ rfl with ⟨hv, c74, hI1⟩
          cases hv
          have hI : sI (dC, dI) vcl cI cJ (gsC a he dp co li op wd tl lc fo sf lf nf) A s.heap H1 locs1 := ⟨by rw [← ht]; exact hI1, hS⟩
          clear hpost hI1 hS ht hWt
          revert hI; generalize H1 = H; generalize locs1 = locs; intro hI
          refine lv_iload_n hx hb d_Pr_putText_52 rfl (lv_at hl 0 rfl) ?_
          refine sn_ldc (n := 32768) hx hb hown (hts _ mw_699) d_Pr_putText_53 (by decide) (fun z75 hz75 => ?_)
          refine sn_icmp_lt (tgt := 62) hx hb d_Pr_putText_55 (by decide) (fun b76 => ?_) (fun b76 => ?_)
          · refine sn_iinc (k := 3) hx hb d_Pr_putText_62 hl rfl (by decide) (by decide) (by omega) (by omega) (fun ls z77 hz77 hl => ?_)
            have hl : lv_has ls 4 [(2, .int z77), (3, .int z60), (0, .ref (a 4)), (1, .int x1)] := hl
            refine lv_goto (tgt := 7) hx hb d_Pr_putText_65 (by decide) ?_
            exact ih _ _ _ z77 hI c74 (by omega) (by omega) (lv_sub hl [2, 3, 0] rfl) (by omega)
          · refine lv_iload_n hx hb d_Pr_putText_58 rfl (lv_at hl 3 rfl) ?_
            refine sn_iconst hx hb d_Pr_putText_59 (by decide) (fun z78 hz78 => ?_)
            refine sn_iadd hx hb d_Pr_putText_60 (by omega) (by omega) (fun z79 hz79 => ?_)
            subst hZ
            exact tz_ret (W.iret (v := z79) hx hb hr (fun t ht hW => ⟨⟨fun v9 hv9 => by cases hv9; exact (⟨z79, rfl, c74, by omega, by omega, by rw [ht]; exact hI.1⟩), fun x9 hx9 => (by cases hx9)⟩, hI.2.F ht⟩) hI.2.2.2 d_Pr_putText_61)
        · rcases hpost.2 _ rfl with ⟨hex, c80, hI1⟩
          have hI : sI (dC, dI) vcl cI cJ (gsC a he dp co li op wd tl lc fo sf lf nf) A s.heap H1 locs1 := ⟨by rw [← ht]; exact hI1, hS⟩
          refine tz_widen (k := 1) (n := 6) (Nat.le_of_ble_eq_true rfl) (Nat.le_of_ble_eq_true rfl) ?_
          subst hZ
          exact tz_leave (tx_noH B (hts _ mw_644) _) (fun t9 ht9 hW9 => ⟨⟨fun v9 hv9 => (by cases hv9), fun x9 hx9 => by cases hx9; exact (⟨ta_exm hex ht ht9 hWt hW9, c80, by rw [ht9]; exact hI.1⟩)⟩, hI.2.F ht9⟩) hI.2.2.2 hlocks
  refine lv_aload_n hx hb d_Pr_putText_0 rfl (lv_at hl 0 rfl) ?_
  refine sn_iconst hx hb d_Pr_putText_1 (by decide) (fun z81 hz81 => ?_)
  refine sv_put (C := "StoryMachine$Printer") (T := T_Pr) (N := 5) (ty := .int) hx hb hts in_Pr t_Pr tk_Pr nm_Pr hown hK (sh_in adC_map hAC) hI 4 kC_4 rfl 3 (by decide) (hts _ mw_119) rfl (by decide +kernel) rfl rfl (Nat.le_of_ble_eq_true rfl) (by omega) (by omega) pC_4_3 d_Pr_putText_2 (fun H locs hI => ?_)
  refine lv_iload_n hx hb d_Pr_putText_5 rfl (lv_at hl 1 rfl) ?_
  refine lv_istore_n (lv' := [(2, .int x1), (0, .ref (a 4)), (1, .int x1)]) hx hb d_Pr_putText_6 rfl hl (by decide) rfl (fun ls hl => ?_)
  exact j7 4294967296 _ _ _ x1 hI hok (by omega) (by omega) (lv_sub hl [1, 2, 0] rfl) (by omega)
