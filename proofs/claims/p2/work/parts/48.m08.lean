abbrev q_Di_isSeparator (dC : Nat → ClassId) (dI : Nat → Nat → Nat) (cI cJ : ClassId) (a : Nat → Nat) (he dp co li op wd tl lc fo : Int) (sf lf nf : Nat → Int32) (x1 : Int32) : Outcome → State → Prop := fun o t => (∀ v, o = .returned v → ((∃ (z : Int32), v = some (.int z) ∧ okC he dp co li op wd tl lc fo sf lf nf ∧ (0 ≤ z.toInt) ∧ (z.toInt ≤ 0) ∧ sh_I (dC, dI) vcl cI cJ (gsC a he dp co li op wd tl lc fo sf lf nf) t.heap) ∨ (∃ (z : Int32), v = some (.int z) ∧ okC he dp co li op wd tl lc fo sf lf nf ∧ (1 ≤ z.toInt) ∧ (z.toInt ≤ 1) ∧ (0 ≤ x1.toInt) ∧ (x1.toInt ≤ 255) ∧ sh_I (dC, dI) vcl cI cJ (gsC a he dp co li op wd tl lc fo sf lf nf) t.heap))) ∧ (∀ x, o = .threw x → ((ta_Ex "java/lang/IllegalArgumentException" x t ∧ okC he dp co li op wd tl lc fo sf lf nf ∧ sh_I (dC, dI) vcl cI cJ (gsC a he dp co li op wd tl lc fo sf lf nf) t.heap)))
def rm_Di_isSeparator : Room := { frames := 8, cells := 1, slots := 6, locals := 151 }
set_option maxHeartbeats 4000000 in
set_option maxRecDepth 100000 in
theorem c_Di_isSeparator (l : Launch) (hfl : l.flags = pinnedFlags ++ [noTraceFlag]) (dC : Nat → ClassId) (dI : Nat → Nat → Nat) (cI cJ : ClassId) (a : Nat → Nat) (sz : Nat) (he dp co li op wd tl lc fo : Int) (sf lf nf : Nat → Int32) (x1 : Int32) (hok : okC he dp co li op wd tl lc fo sf lf nf) : tz_Met l ⟨"StoryMachine$Dictionary", "isSeparator", "(I)Z"⟩ tw_tbl rm_Di_isSeparator (tzP (dC, dI) vcl cI cJ (gsC a he dp co li op wd tl lc fo sf lf nf) a (adC a) [.ref (a 18), .int x1] sz) (tq_Q (q_Di_isSeparator dC dI cI cJ a he dp co li op wd tl lc fo sf lf nf x1) (ga (adC a) sz)) 0 0 1 6 (ga (adC a) sz) := by
  refine tz_ofW (cc := prog_3_method_4_code) (maxL := 5) (ret := (some .boolean)) (by decide) (tx_isM mw_904) ?_
  intro p e s m args below meth c s₁ B hml hv
  obtain ⟨rfl, hsz, hI0, hK, hst0⟩ := hv
  have hx := B.exec
  have hb := B.bytes
  have hr := B.returns
  have hts := atoms_spec (ws := tw_tbl) B.pre
  have hown : s.vm.findClass "StoryMachine$Dictionary" = some m.cls := findClass_of_methodNamed B.named
  have hlocks := B.notSynchronized
  subst hsz
  have hst := fun (H : Heap) (locs : List Loc) (hS : va_S (ga (adC a) s.heap.size) s.heap H locs) (U : State) (hU : U.heap = H) (hW : s.WarmedH U.vm) => zS_all adC_map hI0 hst0 hS hU hW
  have hAC : ∀ q ∈ adC a, ga (adC a) s.heap.size q := fun q h => Or.inl h
  have hA0 : ∀ q, s.heap.size ≤ q → ga (adC a) s.heap.size q := fun q h => Or.inr h
  have hI : sI (dC, dI) vcl cI cJ (gsC a he dp co li op wd tl lc fo sf lf nf) (ga (adC a) s.heap.size) s.heap s.heap [] := ⟨hI0, va_S.rf⟩
  clear hI0 hst0
  have hl := lv_entry ([.ref (a 18), .int x1]) (n := 5) (Nat.le_of_ble_eq_true rfl)
  rw [lg_entry_eq]
  generalize (lg_sl ([.ref (a 18), .int x1]) ++ List.replicate (5 - (lg_sl ([.ref (a 18), .int x1])).length) Slot.unset).toArray = ls at hl ⊢
  have hl : lv_has ls 5 [(0, .ref (a 18)), (1, .int x1)] := hl
  generalize hZ : tz_MQ below (tq_Q (q_Di_isSeparator dC dI cI cJ a he dp co li op wd tl lc fo sf lf nf x1) (ga (adC a) s.heap.size)) ([.ref (a 18), .int x1] : List Value).toArray s 0 0 1 6 (ga (adC a) s.heap.size) = Z
  obtain ⟨A, hAe⟩ : ∃ A, A = ga (adC a) s.heap.size := ⟨_, rfl⟩
  rw [← hAe] at hst hAC hA0 hI hZ
  refine sv_start hI (fun H locs hI => ?_)
  obtain ⟨⟨o1, o2⟩, ⟨o3, o4⟩, ⟨o5, o6⟩, ⟨o7, o8⟩, ⟨o9, o10⟩, ⟨o11, o12⟩, ⟨o13, o14⟩, ⟨o15, o16⟩, ⟨o17, o18⟩, o19, -, -⟩ := id hok
  have gx1 := sn_rng x1
  have j22 : ∀ (n : Nat) (H : Heap) (locs : List Loc) (ls : Array Slot) (v22_2 v22_3 v22_4 : Int32), sI (dC, dI) vcl cI cJ (gsC a he dp co li op wd tl lc fo sf lf nf) A s.heap H locs → okC he dp co li op wd tl lc fo sf lf nf → 0 ≤ v22_2.toInt → v22_2.toInt ≤ 511 → 0 ≤ v22_3.toInt → v22_3.toInt ≤ 255 → 1 ≤ v22_4.toInt → v22_4.toInt ≤ 256 → lv_has ls 5 [(0, .ref (a 18)), (1, .int x1), (2, .int v22_2), (3, .int v22_3), (4, .int v22_4)] → 256 - v22_4.toInt < (n : Int) → W p l e (headSpec tw_tbl rm_Di_isSeparator).room s m ([.ref (a 18), .int x1] : List Value).toArray below meth c H locs 0 0 Z (F0 m 22 ls []) := by
    intro n
    induction n with
    | zero => intro H locs ls v22_2 v22_3 v22_4 hI hok g22_0 g22_1 g22_2 g22_3 g22_4 g22_5 hl hme; exfalso; obtain ⟨⟨o20, o21⟩, ⟨o22, o23⟩, ⟨o24, o25⟩, ⟨o26, o27⟩, ⟨o28, o29⟩, ⟨o30, o31⟩, ⟨o32, o33⟩, ⟨o34, o35⟩, ⟨o36, o37⟩, o38, -, -⟩ := id hok; omega
    | succ n ih =>
      intro H locs ls v22_2 v22_3 v22_4 hI hok g22_0 g22_1 g22_2 g22_3 g22_4 g22_5 hl hme
      obtain ⟨⟨o39, o40⟩, ⟨o41, o42⟩, ⟨o43, o44⟩, ⟨o45, o46⟩, ⟨o47, o48⟩, ⟨o49, o50⟩, ⟨o51, o52⟩, ⟨o53, o54⟩, ⟨o55, o56⟩, o57, -, -⟩ := id hok
      refine lv_iload hx hb d_Di_isSeparator_22 (lv_at hl 4 rfl) ?_
      refine lv_iload_n hx hb d_Di_isSeparator_24 rfl (lv_at hl 3 rfl) ?_
      refine sn_icmp_gt (tgt := 51) hx hb d_Di_isSeparator_25 (by decide) (fun b58 => ?_) (fun b58 => ?_)
      · refine sn_iconst hx hb d_Di_isSeparator_51 (by decide) (fun z59 hz59 => ?_)
        subst hZ
        exact tz_ret (W.zret (v := z59) hx hb hr (sn_bool (by omega) (by omega)).1 (fun t ht hW => ⟨⟨fun v9 hv9 => by cases hv9; exact (Or.inl ⟨z59, rfl, hok, by omega, by omega, by rw [ht]; exact hI.1⟩), fun x9 hx9 => (by cases hx9)⟩, hI.2.F ht⟩) hI.2.2.2 d_Di_isSeparator_52)
      · refine lv_aload_n hx hb d_Di_isSeparator_28 rfl (lv_at hl 0 rfl) ?_
        refine sv_getr (C := "StoryMachine$Dictionary") (T := T_Di) (N := 6) hx hb hts in_Di hown hK hI 18 kC_18 rfl 0 (by decide) (hts _ mw_191) rfl d_Di_isSeparator_29 ?_
        refine lv_iload_n hx hb d_Di_isSeparator_32 rfl (lv_at hl 2 rfl) ?_
        refine lv_iload hx hb d_Di_isSeparator_33 (lv_at hl 4 rfl) ?_
        refine sn_iadd hx hb d_Di_isSeparator_35 (by omega) (by omega) (fun z60 hz60 => ?_)
        refine tz_call (A1 := ga (adC a) H.size) (tz_runV (C := "StoryMachine$Memory") (As := [.int z60]) (rest := []) ⟨hx, hb, hml, hown, hts⟩ (c_Me_byteAt l hfl dC dI cI cJ a H.size he dp co li op wd tl lc fo sf lf nf z60 hok) (tx_cb (n := 1) hts rfl rfl ⟨Nat.le_of_ble_eq_true rfl, Nat.le_of_ble_eq_true rfl⟩ (tx_code.of (hts _ mw_511)) (hts _ mw_2) (by decide +kernel) (hts _ mw_906)) (hts _ mw_509) (hts _ mw_510) ⟨tz_blind, sv_recv (q0 := 1) hts in_Me hK hI kC_1 rfl, fun U hU hW => ⟨rfl, by rw [hU], by rw [hU]; exact hI.1, va_K.moved hW.alike hK, hst _ _ hI.2 U hU hW⟩⟩ rfl rfl hl.1 rfl (lv_room (Nat.le_of_ble_eq_true rfl)) d_Di_isSeparator_36 ⟨Nat.le_of_ble_eq_true rfl, Nat.le_of_ble_eq_true rfl⟩) hI.2 (fun q _ h => ga_sub hAC hA0 hI.2 q h) (ga_sub hAC hA0 hI.2) (fun v t H1 locs1 ht hWt hpost _ _ hS => ?_) (fun x t H1 locs1 ht hWt hpost _ _ hS => ?_)
        · rcases hpost.1 _ rfl with ⟨z61, hv, c62, c62_0, c62_1, c62_2, c62_3, hI1⟩
          cases hv
          have hI : sI (dC, dI) vcl cI cJ (gsC a he dp co li op wd tl lc fo sf lf nf) A s.heap H1 locs1 := ⟨by rw [← ht]; exact hI1, hS⟩
          clear hpost hI1 hS ht hWt
          revert hI; generalize H1 = H; generalize locs1 = locs; intro hI
          refine lv_iload_n hx hb d_Di_isSeparator_39 rfl (lv_at hl 1 rfl) ?_
          refine sn_icmp_ne (tgt := 45) hx hb d_Di_isSeparator_40 (by decide) (fun b63 => ?_) (fun b63 => ?_)
          · refine sn_iinc (k := 4) hx hb d_Di_isSeparator_45 hl rfl (by decide) (by decide) (by omega) (by omega) (fun ls z64 hz64 hl => ?_)
            have hl : lv_has ls 5 [(4, .int z64), (0, .ref (a 18)), (1, .int x1), (2, .int v22_2), (3, .int v22_3)] := hl
            refine lv_goto (tgt := 22) hx hb d_Di_isSeparator_48 (by decide) ?_
            exact ih _ _ _ v22_2 v22_3 z64 hI c62 (by omega) (by omega) (by omega) (by omega) (by omega) (by omega) (lv_sub hl [1, 2, 3, 4, 0] rfl) (by omega)
          · refine sn_iconst hx hb d_Di_isSeparator_43 (by decide) (fun z65 hz65 => ?_)
            subst hZ
            exact tz_ret (W.zret (v := z65) hx hb hr (sn_bool (by omega) (by omega)).1 (fun t ht hW => ⟨⟨fun v9 hv9 => by cases hv9; exact (Or.inr (⟨z65, rfl, c62, by omega, by omega, by omega, by omega, by rw [ht]; exact hI.1⟩)), fun x9 hx9 => (by cases hx9)⟩, hI.2.F ht⟩) hI.2.2.2 d_Di_isSeparator_44)
        · rcases hpost.2 _ rfl with ⟨hex, c66, hI1⟩
          have hI : sI (dC, dI) vcl cI cJ (gsC a he dp co li op wd tl lc fo sf lf nf) A s.heap H1 locs1 := ⟨by rw [← ht]; exact hI1, hS⟩
          refine tz_widen (k := 1) (n := 6) (Nat.le_of_ble_eq_true rfl) (Nat.le_of_ble_eq_true rfl) ?_
          subst hZ
          exact tz_leave (tx_noH B (hts _ mw_904) _) (fun t9 ht9 hW9 => ⟨⟨fun v9 hv9 => (by cases hv9), fun x9 hx9 => by cases hx9; exact (⟨ta_exm hex ht ht9 hWt hW9, c66, by rw [ht9]; exact hI.1⟩)⟩, hI.2.F ht9⟩) hI.2.2.2 hlocks
  refine lv_aload_n hx hb d_Di_isSeparator_0 rfl (lv_at hl 0 rfl) ?_
  refine sv_getr (C := "StoryMachine$Dictionary") (T := T_Di) (N := 6) hx hb hts in_Di hown hK hI 18 kC_18 rfl 0 (by decide) (hts _ mw_191) rfl d_Di_isSeparator_1 ?_
  refine sn_bipush hx hb d_Di_isSeparator_4 (by decide) (fun z67 hz67 => ?_)
  refine tz_call (A1 := ga (adC a) H.size) (tz_runV (C := "StoryMachine$Memory") (As := [.int z67]) (rest := []) ⟨hx, hb, hml, hown, hts⟩ (c_Me_wordAts l hfl dC dI cI cJ a H.size he dp co li op wd tl lc fo sf lf nf z67 hok (by omega) (by omega)) (tx_cb (n := 1) hts rfl rfl ⟨Nat.le_of_ble_eq_true rfl, Nat.le_of_ble_eq_true rfl⟩ (tx_code.of (hts _ mw_440)) (hts _ mw_2) (by decide +kernel) (hts _ mw_905)) (hts _ mw_438) (hts _ mw_439) ⟨tz_blind, sv_recv (q0 := 1) hts in_Me hK hI kC_1 rfl, fun U hU hW => ⟨rfl, by rw [hU], by rw [hU]; exact hI.1, va_K.moved hW.alike hK, hst _ _ hI.2 U hU hW⟩⟩ rfl rfl hl.1 rfl (lv_room (Nat.le_of_ble_eq_true rfl)) d_Di_isSeparator_6 ⟨Nat.le_of_ble_eq_true rfl, Nat.le_of_ble_eq_true rfl⟩) hI.2 (fun q _ h => ga_sub hAC hA0 hI.2 q h) (ga_sub hAC hA0 hI.2) (fun v t H1 locs1 ht hWt hpost _ _ hS => ?_) (fun x t H1 locs1 ht hWt hpost _ _ hS => (hpost.2 x rfl).elim)
  rcases hpost.1 _ rfl with ⟨z68, hv, c69, c69_0, c69_1, hI1⟩
  cases hv
  have hI : sI (dC, dI) vcl cI cJ (gsC a he dp co li op wd tl lc fo sf lf nf) A s.heap H1 locs1 := ⟨by rw [← ht]; exact hI1, hS⟩
  clear hpost hI1 hS ht hWt
  revert hI; generalize H1 = H; generalize locs1 = locs; intro hI
  refine lv_istore_n (lv' := [(2, .int z68), (0, .ref (a 18)), (1, .int x1)]) hx hb d_Di_isSeparator_9 rfl hl (by decide) rfl (fun ls hl => ?_)
  refine lv_aload_n hx hb d_Di_isSeparator_10 rfl (lv_at hl 1 rfl) ?_
  refine sv_getr (C := "StoryMachine$Dictionary") (T := T_Di) (N := 6) hx hb hts in_Di hown hK hI 18 kC_18 rfl 0 (by decide) (hts _ mw_191) rfl d_Di_isSeparator_11 ?_
  refine lv_iload_n hx hb d_Di_isSeparator_14 rfl (lv_at hl 0 rfl) ?_
  refine tz_call (A1 := ga (adC a) H.size) (tz_runV (C := "StoryMachine$Memory") (As := [.int z68]) (rest := []) ⟨hx, hb, hml, hown, hts⟩ (c_Me_byteAt l hfl dC dI cI cJ a H.size he dp co li op wd tl lc fo sf lf nf z68 c69) (tx_cb (n := 1) hts rfl rfl ⟨Nat.le_of_ble_eq_true rfl, Nat.le_of_ble_eq_true rfl⟩ (tx_code.of (hts _ mw_511)) (hts _ mw_2) (by decide +kernel) (hts _ mw_906)) (hts _ mw_509) (hts _ mw_510) ⟨tz_blind, sv_recv (q0 := 1) hts in_Me hK hI kC_1 rfl, fun U hU hW => ⟨rfl, by rw [hU], by rw [hU]; exact hI.1, va_K.moved hW.alike hK, hst _ _ hI.2 U hU hW⟩⟩ rfl rfl hl.1 rfl (lv_room (Nat.le_of_ble_eq_true rfl)) d_Di_isSeparator_15 ⟨Nat.le_of_ble_eq_true rfl, Nat.le_of_ble_eq_true rfl⟩) hI.2 (fun q _ h => ga_sub hAC hA0 hI.2 q h) (ga_sub hAC hA0 hI.2) (fun v t H1 locs1 ht hWt hpost _ _ hS => ?_) (fun x t H1 locs1 ht hWt hpost _ _ hS => ?_)
  · rcases hpost.1 _ rfl with ⟨z70, hv, c71, c71_0, c71_1, c71_2, c71_3, hI1⟩
    cases hv
    have hI : sI (dC, dI) vcl cI cJ (gsC a he dp co li op wd tl lc fo sf lf nf) A s.heap H1 locs1 := ⟨by rw [← ht]; exact hI1, hS⟩
    clear hpost hI1 hS ht hWt
    revert hI; generalize H1 = H; generalize locs1 = locs; intro hI
    refine lv_istore_n (lv' := [(3, .int z70), (2, .int z68), (0, .ref (a 18)), (1, .int x1)]) hx hb d_Di_isSeparator_18 rfl hl (by decide) rfl (fun ls hl => ?_)
    refine sn_iconst hx hb d_Di_isSeparator_19 (by decide) (fun z72 hz72 => ?_)
    refine lv_istore (lv' := [(4, .int z72), (3, .int z70), (2, .int z68), (0, .ref (a 18)), (1, .int x1)]) hx hb d_Di_isSeparator_20 hl (by decide) rfl (fun ls hl => ?_)
    exact j22 256 _ _ _ z68 z70 z72 hI c71 (by omega) (by omega) (by omega) (by omega) (by omega) (by omega) (lv_sub hl [3, 4, 2, 1, 0] rfl) (by omega)
  · rcases hpost.2 _ rfl with ⟨hex, c73, hI1⟩
    have hI : sI (dC, dI) vcl cI cJ (gsC a he dp co li op wd tl lc fo sf lf nf) A s.heap H1 locs1 := ⟨by rw [← ht]; exact hI1, hS⟩
    refine tz_widen (k := 1) (n := 6) (Nat.le_of_ble_eq_true rfl) (Nat.le_of_ble_eq_true rfl) ?_
    subst hZ
    exact tz_leave (tx_noH B (hts _ mw_904) _) (fun t9 ht9 hW9 => ⟨⟨fun v9 hv9 => (by cases hv9), fun x9 hx9 => by cases hx9; exact (⟨ta_exm hex ht ht9 hWt hW9, c73, by rw [ht9]; exact hI.1⟩)⟩, hI.2.F ht9⟩) hI.2.2.2 hlocks
abbrev q_Di_addLetter (dC : Nat → ClassId) (dI : Nat → Nat → Nat) (cI cJ : ClassId) (a : Nat → Nat) (he dp co li op wd tl lc fo : Int) (sf lf nf : Nat → Int32) (x1 : Int32) : Outcome → State → Prop := fun o t => (∀ v, o = .returned v → ((∃ (lc_ : Int), v = none ∧ okC he dp co li op wd tl lc_ fo sf lf nf ∧ (1 ≤ lc_) ∧ sh_I (dC, dI) vcl cI cJ (gsC a he dp co li op wd tl lc_ fo sf lf nf) t.heap))) ∧ (∀ x, o = .threw x → (False))
def rm_Di_addLetter : Room := { frames := 0, cells := 0, slots := 0, locals := 0 }
set_option maxHeartbeats 4000000 in
set_option maxRecDepth 100000 in
theorem c_Di_addLetter (l : Launch) (hfl : l.flags = pinnedFlags ++ [noTraceFlag]) (dC : Nat → ClassId) (dI : Nat → Nat → Nat) (cI cJ : ClassId) (a : Nat → Nat) (sz : Nat) (he dp co li op wd tl lc fo : Int) (sf lf nf : Nat → Int32) (x1 : Int32) (hok : okC he dp co li op wd tl lc fo sf lf nf) : tz_Met l ⟨"StoryMachine$Dictionary", "addLetter", "(I)V"⟩ tw_tbl rm_Di_addLetter (tzP (dC, dI) vcl cI cJ (gsC a he dp co li op wd tl lc fo sf lf nf) a (adC a) [.ref (a 18), .int x1] sz) (tq_Q (q_Di_addLetter dC dI cI cJ a he dp co li op wd tl lc fo sf lf nf x1) (ga (adC a) sz)) 0 0 0 0 (ga (adC a) sz) := by
  refine tz_ofW (cc := prog_3_method_8_code) (maxL := 2) (ret := none) (by decide) (tx_isM mw_991) ?_
  intro p e s m args below meth c s₁ B hml hv
  obtain ⟨rfl, hsz, hI0, hK, hst0⟩ := hv
  have hx := B.exec
  have hb := B.bytes
  have hr := B.returns
  have hts := atoms_spec (ws := tw_tbl) B.pre
  have hown : s.vm.findClass "StoryMachine$Dictionary" = some m.cls := findClass_of_methodNamed B.named
  have hlocks := B.notSynchronized
  subst hsz
  have hst := fun (H : Heap) (locs : List Loc) (hS : va_S (ga (adC a) s.heap.size) s.heap H locs) (U : State) (hU : U.heap = H) (hW : s.WarmedH U.vm) => zS_all adC_map hI0 hst0 hS hU hW
  have hAC : ∀ q ∈ adC a, ga (adC a) s.heap.size q := fun q h => Or.inl h
  have hA0 : ∀ q, s.heap.size ≤ q → ga (adC a) s.heap.size q := fun q h => Or.inr h
  have hI : sI (dC, dI) vcl cI cJ (gsC a he dp co li op wd tl lc fo sf lf nf) (ga (adC a) s.heap.size) s.heap s.heap [] := ⟨hI0, va_S.rf⟩
  clear hI0 hst0
  have hl := lv_entry ([.ref (a 18), .int x1]) (n := 2) (Nat.le_of_ble_eq_true rfl)
  rw [lg_entry_eq]
  generalize (lg_sl ([.ref (a 18), .int x1]) ++ List.replicate (2 - (lg_sl ([.ref (a 18), .int x1])).length) Slot.unset).toArray = ls at hl ⊢
  have hl : lv_has ls 2 [(0, .ref (a 18)), (1, .int x1)] := hl
  generalize hZ : tz_MQ below (tq_Q (q_Di_addLetter dC dI cI cJ a he dp co li op wd tl lc fo sf lf nf x1) (ga (adC a) s.heap.size)) ([.ref (a 18), .int x1] : List Value).toArray s 0 0 0 0 (ga (adC a) s.heap.size) = Z
  obtain ⟨A, hAe⟩ : ∃ A, A = ga (adC a) s.heap.size := ⟨_, rfl⟩
  rw [← hAe] at hst hAC hA0 hI hZ
  refine sv_start hI (fun H locs hI => ?_)
  obtain ⟨⟨o1, o2⟩, ⟨o3, o4⟩, ⟨o5, o6⟩, ⟨o7, o8⟩, ⟨o9, o10⟩, ⟨o11, o12⟩, ⟨o13, o14⟩, ⟨o15, o16⟩, ⟨o17, o18⟩, o19, -, -⟩ := id hok
  have gx1 := sn_rng x1
  refine lv_aload_n hx hb d_Di_addLetter_0 rfl (lv_at hl 0 rfl) ?_
  refine sv_gete (C := "StoryMachine$Dictionary") (T := T_Di) (N := 6) hx hb hts in_Di hown hK hI 18 kC_18 rfl 5 (by decide) (hts _ mw_199) rfl d_Di_addLetter_1 (fun z20 hz20 => ?_)
  refine sn_bipush hx hb d_Di_addLetter_4 (by decide) (fun z21 hz21 => ?_)
  refine sn_icmp_ge (tgt := 29) hx hb d_Di_addLetter_6 (by decide) (fun b22 => ?_) (fun b22 => ?_)
  · subst hZ
    exact tz_ret (W.vret hx hb hr (fun t ht hW => ⟨⟨fun v9 hv9 => by cases hv9; exact (⟨lc, rfl, hok, by omega, by rw [ht]; exact hI.1⟩), fun x9 hx9 => (by cases hx9)⟩, hI.2.F ht⟩) hI.2.2.2 d_Di_addLetter_29)
  · refine lv_aload_n hx hb d_Di_addLetter_9 rfl (lv_at hl 0 rfl) ?_
    refine sv_getr (C := "StoryMachine$Dictionary") (T := T_Di) (N := 6) hx hb hts in_Di hown hK hI 18 kC_18 rfl 4 (by decide) (hts _ mw_198) rfl d_Di_addLetter_10 ?_
    refine lv_aload_n hx hb d_Di_addLetter_13 rfl (lv_at hl 0 rfl) ?_
    refine sv_gete (C := "StoryMachine$Dictionary") (T := T_Di) (N := 6) hx hb hts in_Di hown hK hI 18 kC_18 rfl 5 (by decide) (hts _ mw_199) rfl d_Di_addLetter_14 (fun z23 hz23 => ?_)
    refine lv_iload_n hx hb d_Di_addLetter_17 rfl (lv_at hl 1 rfl) ?_
    refine sv_iastr hx hb hK (sh_in adC_map hAC) hI 24 kC_24 (by omega) (by omega) (by omega) (by omega) pC_24 d_Di_addLetter_18 (fun H locs hI => ?_)
    refine lv_aload_n hx hb d_Di_addLetter_19 rfl (lv_at hl 0 rfl) ?_
    refine lv_dup hx hb d_Di_addLetter_20 rfl ?_
    refine sv_gete (C := "StoryMachine$Dictionary") (T := T_Di) (N := 6) hx hb hts in_Di hown hK hI 18 kC_18 rfl 5 (by decide) (hts _ mw_199) rfl d_Di_addLetter_21 (fun z24 hz24 => ?_)
    refine sn_iconst hx hb d_Di_addLetter_24 (by decide) (fun z25 hz25 => ?_)
    refine sn_iadd hx hb d_Di_addLetter_25 (by omega) (by omega) (fun z26 hz26 => ?_)
    refine sv_put (C := "StoryMachine$Dictionary") (T := T_Di) (N := 6) (ty := .int) hx hb hts in_Di t_Di tk_Di nm_Di hown hK (sh_in adC_map hAC) hI 18 kC_18 rfl 5 (by decide) (hts _ mw_199) rfl (by decide +kernel) rfl rfl (Nat.le_of_ble_eq_true rfl) (Int.le_refl _) (Int.le_refl _) pC_18_5 d_Di_addLetter_26 (fun H locs hI => ?_)
    have ho27 : okC he dp co li op wd tl z26.toInt fo sf lf nf := ⟨hok.1, hok.2.1, hok.2.2.1, hok.2.2.2.1, hok.2.2.2.2.1, hok.2.2.2.2.2.1, hok.2.2.2.2.2.2.1, ⟨by omega, by omega⟩, hok.2.2.2.2.2.2.2.2.1, hok.2.2.2.2.2.2.2.2.2.1, hok.2.2.2.2.2.2.2.2.2.2.1, hok.2.2.2.2.2.2.2.2.2.2.2⟩
    subst hZ
    exact tz_ret (W.vret hx hb hr (fun t ht hW => ⟨⟨fun v9 hv9 => by cases hv9; exact (⟨z26.toInt, rfl, ho27, by omega, by rw [ht]; exact hI.1⟩), fun x9 hx9 => (by cases hx9)⟩, hI.2.F ht⟩) hI.2.2.2 d_Di_addLetter_29)
abbrev q_Di_packedWord (dC : Nat → ClassId) (dI : Nat → Nat → Nat) (cI cJ : ClassId) (a : Nat → Nat) (he dp co li op wd tl lc fo : Int) (sf lf nf : Nat → Int32) (x1 : Int32) : Outcome → State → Prop := fun o t => (∀ v, o = .returned v → ((∃ (z : Int32), v = some (.int z) ∧ okC he dp co li op wd tl lc fo sf lf nf ∧ ((-2147483648) ≤ z.toInt) ∧ (z.toInt ≤ 2147483647) ∧ sh_I (dC, dI) vcl cI cJ (gsC a he dp co li op wd tl lc fo sf lf nf) t.heap))) ∧ (∀ x, o = .threw x → (False))
def rm_Di_packedWord : Room := { frames := 0, cells := 0, slots := 0, locals := 0 }
set_option maxHeartbeats 4000000 in
set_option maxRecDepth 100000 in
theorem c_Di_packedWord (l : Launch) (hfl : l.flags = pinnedFlags ++ [noTraceFlag]) (dC : Nat → ClassId) (dI : Nat → Nat → Nat) (cI cJ : ClassId) (a : Nat → Nat) (sz : Nat) (he dp co li op wd tl lc fo : Int) (sf lf nf : Nat → Int32) (x1 : Int32) (hok : okC he dp co li op wd tl lc fo sf lf nf) (hp0 : 0 ≤ x1.toInt) (hp1 : x1.toInt ≤ 3) : tz_Met l ⟨"StoryMachine$Dictionary", "packedWord", "(I)I"⟩ tw_tbl rm_Di_packedWord (tzP (dC, dI) vcl cI cJ (gsC a he dp co li op wd tl lc fo sf lf nf) a (adC a) [.ref (a 18), .int x1] sz) (tq_Q (q_Di_packedWord dC dI cI cJ a he dp co li op wd tl lc fo sf lf nf x1) (ga (adC a) sz)) 0 0 0 0 (ga (adC a) sz) := by
  refine tz_ofW (cc := prog_3_method_9_code) (maxL := 2) (ret := (some .int)) (by decide) (tx_isM mw_995) ?_
  intro p e s m args below meth c s₁ B hml hv
  obtain ⟨rfl, hsz, hI0, hK, hst0⟩ := hv
  have hx := B.exec
  have hb := B.bytes
  have hr := B.returns
  have hts := atoms_spec (ws := tw_tbl) B.pre
  have hown : s.vm.findClass "StoryMachine$Dictionary" = some m.cls := findClass_of_methodNamed B.named
  have hlocks := B.notSynchronized
  subst hsz
  have hst := fun (H : Heap) (locs : List Loc) (hS : va_S (ga (adC a) s.heap.size) s.heap H locs) (U : State) (hU : U.heap = H) (hW : s.WarmedH U.vm) => zS_all adC_map hI0 hst0 hS hU hW
  have hAC : ∀ q ∈ adC a, ga (adC a) s.heap.size q := fun q h => Or.inl h
  have hA0 : ∀ q, s.heap.size ≤ q → ga (adC a) s.heap.size q := fun q h => Or.inr h
  have hI : sI (dC, dI) vcl cI cJ (gsC a he dp co li op wd tl lc fo sf lf nf) (ga (adC a) s.heap.size) s.heap s.heap [] := ⟨hI0, va_S.rf⟩
  clear hI0 hst0
  have hl := lv_entry ([.ref (a 18), .int x1]) (n := 2) (Nat.le_of_ble_eq_true rfl)
  rw [lg_entry_eq]
  generalize (lg_sl ([.ref (a 18), .int x1]) ++ List.replicate (2 - (lg_sl ([.ref (a 18), .int x1])).length) Slot.unset).toArray = ls at hl ⊢
  have hl : lv_has ls 2 [(0, .ref (a 18)), (1, .int x1)] := hl
  generalize hZ : tz_MQ below (tq_Q (q_Di_packedWord dC dI cI cJ a he dp co li op wd tl lc fo sf lf nf x1) (ga (adC a) s.heap.size)) ([.ref (a 18), .int x1] : List Value).toArray s 0 0 0 0 (ga (adC a) s.heap.size) = Z
  obtain ⟨A, hAe⟩ : ∃ A, A = ga (adC a) s.heap.size := ⟨_, rfl⟩
  rw [← hAe] at hst hAC hA0 hI hZ
  refine sv_start hI (fun H locs hI => ?_)
  obtain ⟨⟨o1, o2⟩, ⟨o3, o4⟩, ⟨o5, o6⟩, ⟨o7, o8⟩, ⟨o9, o10⟩, ⟨o11, o12⟩, ⟨o13, o14⟩, ⟨o15, o16⟩, ⟨o17, o18⟩, o19, -, -⟩ := id hok
  have gx1 := sn_rng x1
  refine lv_aload_n hx hb d_Di_packedWord_0 rfl (lv_at hl 0 rfl) ?_
  refine sv_getr (C := "StoryMachine$Dictionary") (T := T_Di) (N := 6) hx hb hts in_Di hown hK hI 18 kC_18 rfl 4 (by decide) (hts _ mw_198) rfl d_Di_packedWord_1 ?_
  refine lv_iload_n hx hb d_Di_packedWord_4 rfl (lv_at hl 1 rfl) ?_
  refine sv_ialdr hx hb hK hI 24 kC_24 (by omega) (by omega) d_Di_packedWord_5 (fun z20 hz20a hz20b => ?_)
  refine sn_bipush hx hb d_Di_packedWord_6 (by decide) (fun z21 hz21 => ?_)
  refine sn_ishlT hx hb d_Di_packedWord_8 (fun z22 hz22a hz22b => ?_)
  refine lv_aload_n hx hb d_Di_packedWord_9 rfl (lv_at hl 0 rfl) ?_
  refine sv_getr (C := "StoryMachine$Dictionary") (T := T_Di) (N := 6) hx hb hts in_Di hown hK hI 18 kC_18 rfl 4 (by decide) (hts _ mw_198) rfl d_Di_packedWord_10 ?_
  refine lv_iload_n hx hb d_Di_packedWord_13 rfl (lv_at hl 1 rfl) ?_
  refine sn_iconst hx hb d_Di_packedWord_14 (by decide) (fun z23 hz23 => ?_)
  refine sn_iadd hx hb d_Di_packedWord_15 (by omega) (by omega) (fun z24 hz24 => ?_)
  refine sv_ialdr hx hb hK hI 24 kC_24 (by omega) (by omega) d_Di_packedWord_16 (fun z25 hz25a hz25b => ?_)
  refine sn_iconst hx hb d_Di_packedWord_17 (by decide) (fun z26 hz26 => ?_)
  refine sn_ishlT hx hb d_Di_packedWord_18 (fun z27 hz27a hz27b => ?_)
  refine sn_iorT hx hb d_Di_packedWord_19 (fun z28 hz28a hz28b => ?_)
  refine lv_aload_n hx hb d_Di_packedWord_20 rfl (lv_at hl 0 rfl) ?_
  refine sv_getr (C := "StoryMachine$Dictionary") (T := T_Di) (N := 6) hx hb hts in_Di hown hK hI 18 kC_18 rfl 4 (by decide) (hts _ mw_198) rfl d_Di_packedWord_21 ?_
  refine lv_iload_n hx hb d_Di_packedWord_24 rfl (lv_at hl 1 rfl) ?_
  refine sn_iconst hx hb d_Di_packedWord_25 (by decide) (fun z29 hz29 => ?_)
  refine sn_iadd hx hb d_Di_packedWord_26 (by omega) (by omega) (fun z30 hz30 => ?_)
  refine sv_ialdr hx hb hK hI 24 kC_24 (by omega) (by omega) d_Di_packedWord_27 (fun z31 hz31a hz31b => ?_)
  refine sn_iorT hx hb d_Di_packedWord_28 (fun z32 hz32a hz32b => ?_)
  subst hZ
  exact tz_ret (W.iret (v := z32) hx hb hr (fun t ht hW => ⟨⟨fun v9 hv9 => by cases hv9; exact (⟨z32, rfl, hok, by omega, by omega, by rw [ht]; exact hI.1⟩), fun x9 hx9 => (by cases hx9)⟩, hI.2.F ht⟩) hI.2.2.2 d_Di_packedWord_29)
abbrev q_As_keep (dC : Nat → ClassId) (dI : Nat → Nat → Nat) (cI cJ : ClassId) (a : Nat → Nat) (he dp co li op wd tl lc fo : Int) (sf lf nf : Nat → Int32) (x3 : Int32) : Outcome → State → Prop := fun o t => (∀ v, o = .returned v → ((v = none ∧ okC he dp co li op wd tl lc fo sf lf nf ∧ sh_I (dC, dI) vcl cI cJ (gsC a he dp co li op wd tl lc fo sf lf nf) t.heap))) ∧ (∀ x, o = .threw x → (False))
def rm_As_keep : Room := { frames := 2, cells := 0, slots := 0, locals := 81 }
set_option maxHeartbeats 4000000 in
set_option maxRecDepth 100000 in
theorem c_As_keep (l : Launch) (hfl : l.flags = pinnedFlags ++ [noTraceFlag]) (dC : Nat → ClassId) (dI : Nat → Nat → Nat) (cI cJ : ClassId) (a : Nat → Nat) (sz : Nat) (he dp co li op wd tl lc fo : Int) (sf lf nf : Nat → Int32) (x3 : Int32) (hok : okC he dp co li op wd tl lc fo sf lf nf) : tz_Met l ⟨"StoryMachine$Aside", "keep", "(LStoryMachine$Memory;LStoryMachine$Routines;I)V"⟩ tw_tbl rm_As_keep (tzP (dC, dI) vcl cI cJ (gsC a he dp co li op wd tl lc fo sf lf nf) a (adC a) [.ref (a 20), .ref (a 1), .ref (a 3), .int x3] sz) (tq_Q (q_As_keep dC dI cI cJ a he dp co li op wd tl lc fo sf lf nf x3) (ga (adC a) sz)) 0 0 0 0 (ga (adC a) sz) := by
  refine tz_ofW (cc := prog_2_method_2_code) (maxL := 4) (ret := none) (by decide) (tx_isM mw_710) ?_
  intro p e s m args below meth c s₁ B hml hv
  obtain ⟨rfl, hsz, hI0, hK, hst0⟩ := hv
  have hx := B.exec
  have hb := B.bytes
  have hr := B.returns
  have hts := atoms_spec (ws := tw_tbl) B.pre
  have hown : s.vm.findClass "StoryMachine$Aside" = some m.cls := findClass_of_methodNamed B.named
  have hlocks := B.notSynchronized
  subst hsz
  have hst := fun (H : Heap) (locs : List Loc) (hS : va_S (ga (adC a) s.heap.size) s.heap H locs) (U : State) (hU : U.heap = H) (hW : s.WarmedH U.vm) => zS_all adC_map hI0 hst0 hS hU hW
  have hAC : ∀ q ∈ adC a, ga (adC a) s.heap.size q := fun q h => Or.inl h
  have hA0 : ∀ q, s.heap.size ≤ q → ga (adC a) s.heap.size q := fun q h => Or.inr h
  have hI : sI (dC, dI) vcl cI cJ (gsC a he dp co li op wd tl lc fo sf lf nf) (ga (adC a) s.heap.size) s.heap s.heap [] := ⟨hI0, va_S.rf⟩
  clear hI0 hst0
  have hl := lv_entry ([.ref (a 20), .ref (a 1), .ref (a 3), .int x3]) (n := 4) (Nat.le_of_ble_eq_true rfl)
  rw [lg_entry_eq]
  generalize (lg_sl ([.ref (a 20), .ref (a 1), .ref (a 3), .int x3]) ++ List.replicate (4 - (lg_sl ([.ref (a 20), .ref (a 1), .ref (a 3), .int x3])).length) Slot.unset).toArray = ls at hl ⊢
  have hl : lv_has ls 4 [(0, .ref (a 20)), (1, .ref (a 1)), (2, .ref (a 3)), (3, .int x3)] := hl
  generalize hZ : tz_MQ below (tq_Q (q_As_keep dC dI cI cJ a he dp co li op wd tl lc fo sf lf nf x3) (ga (adC a) s.heap.size)) ([.ref (a 20), .ref (a 1), .ref (a 3), .int x3] : List Value).toArray s 0 0 0 0 (ga (adC a) s.heap.size) = Z
  obtain ⟨A, hAe⟩ : ∃ A, A = ga (adC a) s.heap.size := ⟨_, rfl⟩
  rw [← hAe] at hst hAC hA0 hI hZ
  refine sv_start hI (fun H locs hI => ?_)
  obtain ⟨⟨o1, o2⟩, ⟨o3, o4⟩, ⟨o5, o6⟩, ⟨o7, o8⟩, ⟨o9, o10⟩, ⟨o11, o12⟩, ⟨o13, o14⟩, ⟨o15, o16⟩, ⟨o17, o18⟩, o19, -, -⟩ := id hok
  have gx3 := sn_rng x3
  refine lv_aload_n hx hb d_As_keep_0 rfl (lv_at hl 0 rfl) ?_
  refine sv_getr (C := "StoryMachine$Aside") (T := T_As) (N := 4) hx hb hts in_As hown hK hI 20 kC_20 rfl 1 (by decide) (hts _ mw_150) rfl d_As_keep_1 ?_
  refine lv_aload_n hx hb d_As_keep_4 rfl (lv_at hl 1 rfl) ?_
  refine tz_call (A1 := ga (adC a) H.size) (tz_runV (C := "StoryMachine$Memory") (As := [.ref (a 1)]) (rest := []) ⟨hx, hb, hml, hown, hts⟩ (c_Me_copyFrom_26 l hfl dC dI cI cJ a H.size he dp co li op wd tl lc fo sf lf nf  hok) (tx_cb (n := 1) hts rfl rfl ⟨Nat.le_of_ble_eq_true rfl, Nat.le_of_ble_eq_true rfl⟩ (tx_code.of (hts _ mw_714)) (hts _ mw_2) (by decide +kernel) (hts _ mw_711)) (hts _ mw_712) (hts _ mw_713) ⟨tz_blind, sv_recv (q0 := 26) hts in_Me hK hI kC_26 rfl, fun U hU hW => ⟨rfl, by rw [hU], by rw [hU]; exact hI.1, va_K.moved hW.alike hK, hst _ _ hI.2 U hU hW⟩⟩ rfl rfl hl.1 rfl (lv_room (Nat.le_of_ble_eq_true rfl)) d_As_keep_5 ⟨Nat.le_of_ble_eq_true rfl, Nat.le_of_ble_eq_true rfl⟩) hI.2 (fun q _ h => ga_sub hAC hA0 hI.2 q h) (ga_sub hAC hA0 hI.2) (fun v t H1 locs1 ht hWt hpost _ _ hS => ?_) (fun x t H1 locs1 ht hWt hpost _ _ hS => (hpost.2 x rfl).elim)
  rcases hpost.1 _ rfl with ⟨hv, c20, hI1⟩
  cases hv
  have hI : sI (dC, dI) vcl cI cJ (gsC a he dp co li op wd tl lc fo sf lf nf) A s.heap H1 locs1 := ⟨by rw [← ht]; exact hI1, hS⟩
  clear hpost hI1 hS ht hWt
  revert hI; generalize H1 = H; generalize locs1 = locs; intro hI
  refine lv_aload_n hx hb d_As_keep_8 rfl (lv_at hl 0 rfl) ?_
  refine sv_getr (C := "StoryMachine$Aside") (T := T_As) (N := 4) hx hb hts in_As hown hK hI 20 kC_20 rfl 2 (by decide) (hts _ mw_151) rfl d_As_keep_9 ?_
  refine lv_aload_n hx hb d_As_keep_12 rfl (lv_at hl 2 rfl) ?_
  refine tz_call (A1 := ga (adC a) H.size) (tz_runV (C := "StoryMachine$Routines") (As := [.ref (a 3)]) (rest := []) ⟨hx, hb, hml, hown, hts⟩ (c_Ro_copyFrom_27 l hfl dC dI cI cJ a H.size he dp co li op wd tl lc fo sf lf nf  c20) (tx_cb (n := 1) hts rfl rfl ⟨Nat.le_of_ble_eq_true rfl, Nat.le_of_ble_eq_true rfl⟩ (tx_code.of (hts _ mw_721)) (hts _ mw_4) (by decide +kernel) (hts _ mw_718)) (hts _ mw_719) (hts _ mw_720) ⟨tz_blind, sv_recv (q0 := 27) hts in_Ro hK hI kC_27 rfl, fun U hU hW => ⟨rfl, by rw [hU], by rw [hU]; exact hI.1, va_K.moved hW.alike hK, hst _ _ hI.2 U hU hW⟩⟩ rfl rfl hl.1 rfl (lv_room (Nat.le_of_ble_eq_true rfl)) d_As_keep_13 ⟨Nat.le_of_ble_eq_true rfl, Nat.le_of_ble_eq_true rfl⟩) hI.2 (fun q _ h => ga_sub hAC hA0 hI.2 q h) (ga_sub hAC hA0 hI.2) (fun v t H1 locs1 ht hWt hpost _ _ hS => ?_) (fun x t H1 locs1 ht hWt hpost _ _ hS => (hpost.2 x rfl).elim)
  rcases hpost.1 _ rfl with ⟨hv, c21, hI1⟩
  cases hv
  have hI : sI (dC, dI) vcl cI cJ (gsC a he dp co li op wd tl lc fo sf lf nf) A s.heap H1 locs1 := ⟨by rw [← ht]; exact hI1, hS⟩
  clear hpost hI1 hS ht hWt
  revert hI; generalize H1 = H; generalize locs1 = locs; intro hI
  refine lv_aload_n hx hb d_As_keep_16 rfl (lv_at hl 0 rfl) ?_
  refine lv_iload_n hx hb d_As_keep_17 rfl (lv_at hl 3 rfl) ?_
  refine sv_put (C := "StoryMachine$Aside") (T := T_As) (N := 4) (ty := .int) hx hb hts in_As t_As tk_As nm_As hown hK (sh_in adC_map hAC) hI 20 kC_20 rfl 3 (by decide) (hts _ mw_152) rfl (by decide +kernel) rfl rfl (Nat.le_of_ble_eq_true rfl) (by omega) (by omega) pC_20_3 d_As_keep_18 (fun H locs hI => ?_)
  refine lv_aload_n hx hb d_As_keep_21 rfl (lv_at hl 0 rfl) ?_
  refine sn_iconst hx hb d_As_keep_22 (by decide) (fun z22 hz22 => ?_)
  refine sv_put (C := "StoryMachine$Aside") (T := T_As) (N := 4) (ty := .boolean) hx hb hts in_As t_As tk_As nm_As hown hK (sh_in adC_map hAC) hI 20 kC_20 rfl 0 (by decide) (hts _ mw_148) rfl (by decide +kernel) (sn_bool (by omega) (by omega)).1 (sn_bool (by omega) (by omega)).2 (Nat.le_of_ble_eq_true rfl) (by omega) (by omega) pC_20_0 d_As_keep_23 (fun H locs hI => ?_)
  subst hZ
  exact tz_ret (W.vret hx hb hr (fun t ht hW => ⟨⟨fun v9 hv9 => by cases hv9; exact (⟨rfl, c21, by rw [ht]; exact hI.1⟩), fun x9 hx9 => (by cases hx9)⟩, hI.2.F ht⟩) hI.2.2.2 d_As_keep_26)
abbrev q_As_bringBack (dC : Nat → ClassId) (dI : Nat → Nat → Nat) (cI cJ : ClassId) (a : Nat → Nat) (he dp co li op wd tl lc fo : Int) (sf lf nf : Nat → Int32) : Outcome → State → Prop := fun o t => (∀ v, o = .returned v → ((∃ (z : Int32) (he_ dp_ : Int) (nf_ : Nat → Int32), v = some (.int z) ∧ okC he_ dp_ co li op wd tl lc fo sf lf nf_ ∧ ((-2147483648) ≤ z.toInt) ∧ (z.toInt ≤ 2147483647) ∧ sh_I (dC, dI) vcl cI cJ (gsC a he_ dp_ co li op wd tl lc fo sf lf nf_) t.heap))) ∧ (∀ x, o = .threw x → (False))
def rm_As_bringBack : Room := { frames := 2, cells := 0, slots := 0, locals := 81 }
set_option maxHeartbeats 4000000 in
set_option maxRecDepth 100000 in
theorem c_As_bringBack (l : Launch) (hfl : l.flags = pinnedFlags ++ [noTraceFlag]) (dC : Nat → ClassId) (dI : Nat → Nat → Nat) (cI cJ : ClassId) (a : Nat → Nat) (sz : Nat) (he dp co li op wd tl lc fo : Int) (sf lf nf : Nat → Int32) (hok : okC he dp co li op wd tl lc fo sf lf nf) : tz_Met l ⟨"StoryMachine$Aside", "bringBack", "(LStoryMachine$Memory;LStoryMachine$Routines;)I"⟩ tw_tbl rm_As_bringBack (tzP (dC, dI) vcl cI cJ (gsC a he dp co li op wd tl lc fo sf lf nf) a (adC a) [.ref (a 20), .ref (a 1), .ref (a 3)] sz) (tq_Q (q_As_bringBack dC dI cI cJ a he dp co li op wd tl lc fo sf lf nf) (ga (adC a) sz)) 0 0 0 0 (ga (adC a) sz) := by
  refine tz_ofW (cc := prog_2_method_3_code) (maxL := 3) (ret := (some .int)) (by decide) (tx_isM mw_726) ?_
  intro p e s m args below meth c s₁ B hml hv
  obtain ⟨rfl, hsz, hI0, hK, hst0⟩ := hv
  have hx := B.exec
  have hb := B.bytes
  have hr := B.returns
  have hts := atoms_spec (ws := tw_tbl) B.pre
  have hown : s.vm.findClass "StoryMachine$Aside" = some m.cls := findClass_of_methodNamed B.named
  have hlocks := B.notSynchronized
  subst hsz
  have hst := fun (H : Heap) (locs : List Loc) (hS : va_S (ga (adC a) s.heap.size) s.heap H locs) (U : State) (hU : U.heap = H) (hW : s.WarmedH U.vm) => zS_all adC_map hI0 hst0 hS hU hW
  have hAC : ∀ q ∈ adC a, ga (adC a) s.heap.size q := fun q h => Or.inl h
  have hA0 : ∀ q, s.heap.size ≤ q → ga (adC a) s.heap.size q := fun q h => Or.inr h
  have hI : sI (dC, dI) vcl cI cJ (gsC a he dp co li op wd tl lc fo sf lf nf) (ga (adC a) s.heap.size) s.heap s.heap [] := ⟨hI0, va_S.rf⟩
  clear hI0 hst0
  have hl := lv_entry ([.ref (a 20), .ref (a 1), .ref (a 3)]) (n := 3) (Nat.le_of_ble_eq_true rfl)
  rw [lg_entry_eq]
  generalize (lg_sl ([.ref (a 20), .ref (a 1), .ref (a 3)]) ++ List.replicate (3 - (lg_sl ([.ref (a 20), .ref (a 1), .ref (a 3)])).length) Slot.unset).toArray = ls at hl ⊢
  have hl : lv_has ls 3 [(0, .ref (a 20)), (1, .ref (a 1)), (2, .ref (a 3))] := hl
  generalize hZ : tz_MQ below (tq_Q (q_As_bringBack dC dI cI cJ a he dp co li op wd tl lc fo sf lf nf) (ga (adC a) s.heap.size)) ([.ref (a 20), .ref (a 1), .ref (a 3)] : List Value).toArray s 0 0 0 0 (ga (adC a) s.heap.size) = Z
  obtain ⟨A, hAe⟩ : ∃ A, A = ga (adC a) s.heap.size := ⟨_, rfl⟩
  rw [← hAe] at hst hAC hA0 hI hZ
  refine sv_start hI (fun H locs hI => ?_)
  obtain ⟨⟨o1, o2⟩, ⟨o3, o4⟩, ⟨o5, o6⟩, ⟨o7, o8⟩, ⟨o9, o10⟩, ⟨o11, o12⟩, ⟨o13, o14⟩, ⟨o15, o16⟩, ⟨o17, o18⟩, o19, -, -⟩ := id hok
  refine lv_aload_n hx hb d_As_bringBack_0 rfl (lv_at hl 1 rfl) ?_
  refine lv_aload_n hx hb d_As_bringBack_1 rfl (lv_at hl 0 rfl) ?_
  refine sv_getr (C := "StoryMachine$Aside") (T := T_As) (N := 4) hx hb hts in_As hown hK hI 20 kC_20 rfl 1 (by decide) (hts _ mw_150) rfl d_As_bringBack_2 ?_
  refine tz_call (A1 := ga (adC a) H.size) (tz_runV (C := "StoryMachine$Memory") (As := [.ref (a 26)]) (rest := []) ⟨hx, hb, hml, hown, hts⟩ (c_Me_copyFrom_1 l hfl dC dI cI cJ a H.size he dp co li op wd tl lc fo sf lf nf  hok) (tx_cb (n := 1) hts rfl rfl ⟨Nat.le_of_ble_eq_true rfl, Nat.le_of_ble_eq_true rfl⟩ (tx_code.of (hts _ mw_714)) (hts _ mw_2) (by decide +kernel) (hts _ mw_711)) (hts _ mw_712) (hts _ mw_713) ⟨tz_blind, sv_recv (q0 := 1) hts in_Me hK hI kC_1 rfl, fun U hU hW => ⟨rfl, by rw [hU], by rw [hU]; exact hI.1, va_K.moved hW.alike hK, hst _ _ hI.2 U hU hW⟩⟩ rfl rfl hl.1 rfl (lv_room (Nat.le_of_ble_eq_true rfl)) d_As_bringBack_5 ⟨Nat.le_of_ble_eq_true rfl, Nat.le_of_ble_eq_true rfl⟩) hI.2 (fun q _ h => ga_sub hAC hA0 hI.2 q h) (ga_sub hAC hA0 hI.2) (fun v t H1 locs1 ht hWt hpost _ _ hS => ?_) (fun x t H1 locs1 ht hWt hpost _ _ hS => (hpost.2 x rfl).elim)
  rcases hpost.1 _ rfl with ⟨hv, c20, hI1⟩
  cases hv
  have hI : sI (dC, dI) vcl cI cJ (gsC a he dp co li op wd tl lc fo sf lf nf) A s.heap H1 locs1 := ⟨by rw [← ht]; exact hI1, hS⟩
  clear hpost hI1 hS ht hWt
  revert hI; generalize H1 = H; generalize locs1 = locs; intro hI
  refine lv_aload_n hx hb d_As_bringBack_8 rfl (lv_at hl 2 rfl) ?_
  refine lv_aload_n hx hb d_As_bringBack_9 rfl (lv_at hl 0 rfl) ?_
  refine sv_getr (C := "StoryMachine$Aside") (T := T_As) (N := 4) hx hb hts in_As hown hK hI 20 kC_20 rfl 2 (by decide) (hts _ mw_151) rfl d_As_bringBack_10 ?_
  refine tz_call (A1 := ga (adC a) H.size) (tz_runV (C := "StoryMachine$Routines") (As := [.ref (a 27)]) (rest := []) ⟨hx, hb, hml, hown, hts⟩ (c_Ro_copyFrom_3 l hfl dC dI cI cJ a H.size he dp co li op wd tl lc fo sf lf nf  c20) (tx_cb (n := 1) hts rfl rfl ⟨Nat.le_of_ble_eq_true rfl, Nat.le_of_ble_eq_true rfl⟩ (tx_code.of (hts _ mw_721)) (hts _ mw_4) (by decide +kernel) (hts _ mw_718)) (hts _ mw_719) (hts _ mw_720) ⟨tz_blind, sv_recv (q0 := 3) hts in_Ro hK hI kC_3 rfl, fun U hU hW => ⟨rfl, by rw [hU], by rw [hU]; exact hI.1, va_K.moved hW.alike hK, hst _ _ hI.2 U hU hW⟩⟩ rfl rfl hl.1 rfl (lv_room (Nat.le_of_ble_eq_true rfl)) d_As_bringBack_13 ⟨Nat.le_of_ble_eq_true rfl, Nat.le_of_ble_eq_true rfl⟩) hI.2 (fun q _ h => ga_sub hAC hA0 hI.2 q h) (ga_sub hAC hA0 hI.2) (fun v t H1 locs1 ht hWt hpost _ _ hS => ?_) (fun x t H1 locs1 ht hWt hpost _ _ hS => (hpost.2 x rfl).elim)
  rcases hpost.1 _ rfl with ⟨t_he21, t_dp22, f_nf23, hv, c24, hI1⟩
  cases hv
  have hI : sI (dC, dI) vcl cI cJ (gsC a t_he21 t_dp22 co li op wd tl lc fo sf lf f_nf23) A s.heap H1 locs1 := ⟨by rw [← ht]; exact hI1, hS⟩
  obtain ⟨⟨o25, o26⟩, ⟨o27, o28⟩, -, -, -, -, -, -, -, -, -, -⟩ := id c24
  clear hpost hI1 hS ht hWt
  revert hI; generalize H1 = H; generalize locs1 = locs; intro hI
  refine lv_aload_n hx hb d_As_bringBack_16 rfl (lv_at hl 0 rfl) ?_
  refine sv_get (C := "StoryMachine$Aside") (T := T_As) (N := 4) hx hb hts in_As hown hK hI 20 kC_20 rfl 3 (by decide) (hts _ mw_152) rfl d_As_bringBack_17 (fun z29 hz29a hz29b => ?_)
  subst hZ
  exact tz_ret (W.iret (v := z29) hx hb hr (fun t ht hW => ⟨⟨fun v9 hv9 => by cases hv9; exact (⟨z29, t_he21, t_dp22, f_nf23, rfl, c24, by omega, by omega, by rw [ht]; exact hI.1⟩), fun x9 hx9 => (by cases hx9)⟩, hI.2.F ht⟩) hI.2.2.2 d_As_bringBack_20)
abbrev q_Js_isLatin10 (dC : Nat → ClassId) (dI : Nat → Nat → Nat) (cI cJ : ClassId) (a : Nat → Nat) (he dp co li op wd tl lc fo : Int) (sf lf nf : Nat → Int32) : Outcome → State → Prop := fun o t => (∀ v, o = .returned v → ((∃ (z : Int32), v = some (.int z) ∧ okC he dp co li op wd tl lc fo sf lf nf ∧ (1 ≤ z.toInt) ∧ (z.toInt ≤ 1) ∧ sh_I (dC, dI) vcl cI cJ (gsC a he dp co li op wd tl lc fo sf lf nf) t.heap))) ∧ (∀ x, o = .threw x → (False))
def rm_Js_isLatin10 : Room := { frames := 0, cells := 0, slots := 0, locals := 0 }
set_option maxHeartbeats 4000000 in
set_option maxRecDepth 100000 in
theorem c_Js_isLatin10 (l : Launch) (hfl : l.flags = pinnedFlags ++ [noTraceFlag]) (dC : Nat → ClassId) (dI : Nat → Nat → Nat) (cI cJ : ClassId) (a : Nat → Nat) (sz : Nat) (he dp co li op wd tl lc fo : Int) (sf lf nf : Nat → Int32) (hok : okC he dp co li op wd tl lc fo sf lf nf) : tz_Met l ⟨"java/lang/String", "isLatin1", "()Z"⟩ tw_tbl rm_Js_isLatin10 (tzP (dC, dI) vcl cI cJ (gsC a he dp co li op wd tl lc fo sf lf nf) a (adC a) [.ref (a 105)] sz) (tq_Q (q_Js_isLatin10 dC dI cI cJ a he dp co li op wd tl lc fo sf lf nf) (ga (adC a) sz)) 0 0 0 0 (ga (adC a) sz) := by
  refine tz_ofW (cc := prog_22_method_154_code) (maxL := 1) (ret := (some .boolean)) (by decide) (tx_isM mw_666) ?_
  intro p e s m args below meth c s₁ B hml hv
  obtain ⟨rfl, hsz, hI0, hK, hst0⟩ := hv
  have hx := B.exec
  have hb := B.bytes
  have hr := B.returns
  have hts := atoms_spec (ws := tw_tbl) B.pre
  have hown : s.vm.findClass "java/lang/String" = some m.cls := findClass_of_methodNamed B.named
  have hlocks := B.notSynchronized
  subst hsz
  have hst := fun (H : Heap) (locs : List Loc) (hS : va_S (ga (adC a) s.heap.size) s.heap H locs) (U : State) (hU : U.heap = H) (hW : s.WarmedH U.vm) => zS_all adC_map hI0 hst0 hS hU hW
  have hAC : ∀ q ∈ adC a, ga (adC a) s.heap.size q := fun q h => Or.inl h
  have hA0 : ∀ q, s.heap.size ≤ q → ga (adC a) s.heap.size q := fun q h => Or.inr h
  have hI : sI (dC, dI) vcl cI cJ (gsC a he dp co li op wd tl lc fo sf lf nf) (ga (adC a) s.heap.size) s.heap s.heap [] := ⟨hI0, va_S.rf⟩
  clear hI0 hst0
  have hl := lv_entry ([.ref (a 105)]) (n := 1) (Nat.le_of_ble_eq_true rfl)
  rw [lg_entry_eq]
  generalize (lg_sl ([.ref (a 105)]) ++ List.replicate (1 - (lg_sl ([.ref (a 105)])).length) Slot.unset).toArray = ls at hl ⊢
  have hl : lv_has ls 1 [(0, .ref (a 105))] := hl
  generalize hZ : tz_MQ below (tq_Q (q_Js_isLatin10 dC dI cI cJ a he dp co li op wd tl lc fo sf lf nf) (ga (adC a) s.heap.size)) ([.ref (a 105)] : List Value).toArray s 0 0 0 0 (ga (adC a) s.heap.size) = Z
  obtain ⟨A, hAe⟩ : ∃ A, A = ga (adC a) s.heap.size := ⟨_, rfl⟩
  rw [← hAe] at hst hAC hA0 hI hZ
  refine sv_start hI (fun H locs hI => ?_)
  obtain ⟨⟨o1, o2⟩, ⟨o3, o4⟩, ⟨o5, o6⟩, ⟨o7, o8⟩, ⟨o9, o10⟩, ⟨o11, o12⟩, ⟨o13, o14⟩, ⟨o15, o16⟩, ⟨o17, o18⟩, o19, -, -⟩ := id hok
  refine sb_compact hx hb (hst _ [] va_S.rf s rfl (State.WarmedH.refl s)) hAe hI.2 hown (hts _ mw_667) d_Js_isLatin10_0 (fun z20 hz20 => ?_)
  refine sn_if_eq (tgt := 17) hx hb d_Js_isLatin10_3 (by decide) (fun b21 => ?_) (fun b21 => ?_)
  · omega
  · refine lv_aload_n hx hb d_Js_isLatin10_6 rfl (lv_at hl 0 rfl) ?_
    refine sb_coder hx hb (hst _ [] va_S.rf s rfl (State.WarmedH.refl s)) hAe hI.2 hown (hts _ mw_1550) d_Js_isLatin10_7 (fun z22 hz22 => ?_)
    refine sn_if_ne (tgt := 17) hx hb d_Js_isLatin10_10 (by decide) (fun b23 => ?_) (fun b23 => ?_)
    · omega
    · refine sn_iconst hx hb d_Js_isLatin10_13 (by decide) (fun z24 hz24 => ?_)
      refine lv_goto (tgt := 18) hx hb d_Js_isLatin10_14 (by decide) ?_
      subst hZ
      exact tz_ret (W.zret (v := z24) hx hb hr (sn_bool (by omega) (by omega)).1 (fun t ht hW => ⟨⟨fun v9 hv9 => by cases hv9; exact (⟨z24, rfl, hok, by omega, by omega, by rw [ht]; exact hI.1⟩), fun x9 hx9 => (by cases hx9)⟩, hI.2.F ht⟩) hI.2.2.2 d_Js_isLatin10_18)
abbrev q_Jp_checkIndex3n (dC : Nat → ClassId) (dI : Nat → Nat → Nat) (cI cJ : ClassId) (a : Nat → Nat) (he dp co li op wd tl lc fo : Int) (sf lf nf : Nat → Int32) (x0 : Int32) (x1 : Int32) : Outcome → State → Prop := fun o t => (∀ v, o = .returned v → ((∃ (z : Int32), v = some (.int z) ∧ okC he dp co li op wd tl lc fo sf lf nf ∧ (0 ≤ z.toInt) ∧ (z.toInt ≤ 23) ∧ sh_I (dC, dI) vcl cI cJ (gsC a he dp co li op wd tl lc fo sf lf nf) t.heap))) ∧ (∀ x, o = .threw x → (False))
def rm_Jp_checkIndex3n : Room := { frames := 0, cells := 0, slots := 0, locals := 0 }
set_option maxHeartbeats 4000000 in
set_option maxRecDepth 100000 in
theorem c_Jp_checkIndex3n (l : Launch) (hfl : l.flags = pinnedFlags ++ [noTraceFlag]) (dC : Nat → ClassId) (dI : Nat → Nat → Nat) (cI cJ : ClassId) (a : Nat → Nat) (sz : Nat) (he dp co li op wd tl lc fo : Int) (sf lf nf : Nat → Int32) (x0 : Int32) (x1 : Int32) (hok : okC he dp co li op wd tl lc fo sf lf nf) (hp0 : 0 ≤ x0.toInt) (hp1 : x0.toInt ≤ 23) (hp2 : 24 ≤ x1.toInt) (hp3 : x1.toInt ≤ 24) : tz_Met l ⟨"jdk/internal/util/Preconditions", "checkIndex", "(IILjava/util/function/BiFunction;)I"⟩ tw_tbl rm_Jp_checkIndex3n (tzP (dC, dI) vcl cI cJ (gsC a he dp co li op wd tl lc fo sf lf nf) a (adC a) [.int x0, .int x1, .null] sz) (tq_Q (q_Jp_checkIndex3n dC dI cI cJ a he dp co li op wd tl lc fo sf lf nf x0 x1) (ga (adC a) sz)) 0 0 0 0 (ga (adC a) sz) := by
  refine tz_ofW (cc := prog_28_method_11_code) (maxL := 3) (ret := (some .int)) (by decide) (tx_isM mw_679) ?_
  intro p e s m args below meth c s₁ B hml hv
  obtain ⟨rfl, hsz, hI0, hK, hst0⟩ := hv
  have hx := B.exec
  have hb := B.bytes
  have hr := B.returns
  have hts := atoms_spec (ws := tw_tbl) B.pre
  have hown : s.vm.findClass "jdk/internal/util/Preconditions" = some m.cls := findClass_of_methodNamed B.named
  have hlocks := B.notSynchronized
  subst hsz
  have hst := fun (H : Heap) (locs : List Loc) (hS : va_S (ga (adC a) s.heap.size) s.heap H locs) (U : State) (hU : U.heap = H) (hW : s.WarmedH U.vm) => zS_all adC_map hI0 hst0 hS hU hW
  have hAC : ∀ q ∈ adC a, ga (adC a) s.heap.size q := fun q h => Or.inl h
  have hA0 : ∀ q, s.heap.size ≤ q → ga (adC a) s.heap.size q := fun q h => Or.inr h
  have hI : sI (dC, dI) vcl cI cJ (gsC a he dp co li op wd tl lc fo sf lf nf) (ga (adC a) s.heap.size) s.heap s.heap [] := ⟨hI0, va_S.rf⟩
  clear hI0 hst0
  have hl := lv_entry ([.int x0, .int x1, .null]) (n := 3) (Nat.le_of_ble_eq_true rfl)
  rw [lg_entry_eq]
  generalize (lg_sl ([.int x0, .int x1, .null]) ++ List.replicate (3 - (lg_sl ([.int x0, .int x1, .null])).length) Slot.unset).toArray = ls at hl ⊢
  have hl : lv_has ls 3 [(0, .int x0), (1, .int x1), (2, .null)] := hl
  generalize hZ : tz_MQ below (tq_Q (q_Jp_checkIndex3n dC dI cI cJ a he dp co li op wd tl lc fo sf lf nf x0 x1) (ga (adC a) s.heap.size)) ([.int x0, .int x1, .null] : List Value).toArray s 0 0 0 0 (ga (adC a) s.heap.size) = Z
  obtain ⟨A, hAe⟩ : ∃ A, A = ga (adC a) s.heap.size := ⟨_, rfl⟩
  rw [← hAe] at hst hAC hA0 hI hZ
  refine sv_start hI (fun H locs hI => ?_)
  obtain ⟨⟨o1, o2⟩, ⟨o3, o4⟩, ⟨o5, o6⟩, ⟨o7, o8⟩, ⟨o9, o10⟩, ⟨o11, o12⟩, ⟨o13, o14⟩, ⟨o15, o16⟩, ⟨o17, o18⟩, o19, -, -⟩ := id hok
  have gx0 := sn_rng x0
  have gx1 := sn_rng x1
  refine lv_iload_n hx hb d_Jp_checkIndex3_0 rfl (lv_at hl 0 rfl) ?_
  refine sn_if_lt (tgt := 9) hx hb d_Jp_checkIndex3_1 (by decide) (fun b20 => ?_) (fun b20 => ?_)
  · omega
  · refine lv_iload_n hx hb d_Jp_checkIndex3_4 rfl (lv_at hl 0 rfl) ?_
    refine lv_iload_n hx hb d_Jp_checkIndex3_5 rfl (lv_at hl 1 rfl) ?_
    refine sn_icmp_lt (tgt := 16) hx hb d_Jp_checkIndex3_6 (by decide) (fun b21 => ?_) (fun b21 => ?_)
    · refine lv_iload_n hx hb d_Jp_checkIndex3_16 rfl (lv_at hl 0 rfl) ?_
      subst hZ
      exact tz_ret (W.iret (v := x0) hx hb hr (fun t ht hW => ⟨⟨fun v9 hv9 => by cases hv9; exact (⟨x0, rfl, hok, by omega, by omega, by rw [ht]; exact hI.1⟩), fun x9 hx9 => (by cases hx9)⟩, hI.2.F ht⟩) hI.2.2.2 d_Jp_checkIndex3_17)
    · omega
abbrev q_Jp_checkIndex3 (dC : Nat → ClassId) (dI : Nat → Nat → Nat) (cI cJ : ClassId) (a : Nat → Nat) (he dp co li op wd tl lc fo : Int) (sf lf nf : Nat → Int32) (w2 : Nat) (x0 : Int32) (x1 : Int32) : Outcome → State → Prop := fun o t => (∀ v, o = .returned v → ((∃ (z : Int32), v = some (.int z) ∧ okC he dp co li op wd tl lc fo sf lf nf ∧ (0 ≤ z.toInt) ∧ (z.toInt ≤ 23) ∧ sh_I (dC, dI) vcl cI cJ (gsC a he dp co li op wd tl lc fo sf lf nf) t.heap))) ∧ (∀ x, o = .threw x → (False))
def rm_Jp_checkIndex3 : Room := { frames := 0, cells := 0, slots := 0, locals := 0 }
set_option maxHeartbeats 4000000 in
set_option maxRecDepth 100000 in
theorem c_Jp_checkIndex3 (l : Launch) (hfl : l.flags = pinnedFlags ++ [noTraceFlag]) (dC : Nat → ClassId) (dI : Nat → Nat → Nat) (cI cJ : ClassId) (a : Nat → Nat) (sz : Nat) (he dp co li op wd tl lc fo : Int) (sf lf nf : Nat → Int32) (w2 : Nat) (x0 : Int32) (x1 : Int32) (hok : okC he dp co li op wd tl lc fo sf lf nf) (hp0 : 0 ≤ x0.toInt) (hp1 : x0.toInt ≤ 23) (hp2 : 24 ≤ x1.toInt) (hp3 : x1.toInt ≤ 24) : tz_Met l ⟨"jdk/internal/util/Preconditions", "checkIndex", "(IILjava/util/function/BiFunction;)I"⟩ tw_tbl rm_Jp_checkIndex3 (tzP (dC, dI) vcl cI cJ (gsC a he dp co li op wd tl lc fo sf lf nf) a (adC a) [.int x0, .int x1, .ref w2] sz) (tq_Q (q_Jp_checkIndex3 dC dI cI cJ a he dp co li op wd tl lc fo sf lf nf w2 x0 x1) (ga (adC a) sz)) 0 0 0 0 (ga (adC a) sz) := by
  refine tz_ofW (cc := prog_28_method_11_code) (maxL := 3) (ret := (some .int)) (by decide) (tx_isM mw_679) ?_
  intro p e s m args below meth c s₁ B hml hv
  obtain ⟨rfl, hsz, hI0, hK, hst0⟩ := hv
  have hx := B.exec
  have hb := B.bytes
  have hr := B.returns
  have hts := atoms_spec (ws := tw_tbl) B.pre
  have hown : s.vm.findClass "jdk/internal/util/Preconditions" = some m.cls := findClass_of_methodNamed B.named
  have hlocks := B.notSynchronized
  subst hsz
  have hst := fun (H : Heap) (locs : List Loc) (hS : va_S (ga (adC a) s.heap.size) s.heap H locs) (U : State) (hU : U.heap = H) (hW : s.WarmedH U.vm) => zS_all adC_map hI0 hst0 hS hU hW
  have hAC : ∀ q ∈ adC a, ga (adC a) s.heap.size q := fun q h => Or.inl h
  have hA0 : ∀ q, s.heap.size ≤ q → ga (adC a) s.heap.size q := fun q h => Or.inr h
  have hI : sI (dC, dI) vcl cI cJ (gsC a he dp co li op wd tl lc fo sf lf nf) (ga (adC a) s.heap.size) s.heap s.heap [] := ⟨hI0, va_S.rf⟩
  clear hI0 hst0
  have hl := lv_entry ([.int x0, .int x1, .ref w2]) (n := 3) (Nat.le_of_ble_eq_true rfl)
  rw [lg_entry_eq]
  generalize (lg_sl ([.int x0, .int x1, .ref w2]) ++ List.replicate (3 - (lg_sl ([.int x0, .int x1, .ref w2])).length) Slot.unset).toArray = ls at hl ⊢
  have hl : lv_has ls 3 [(0, .int x0), (1, .int x1), (2, .ref w2)] := hl
  generalize hZ : tz_MQ below (tq_Q (q_Jp_checkIndex3 dC dI cI cJ a he dp co li op wd tl lc fo sf lf nf w2 x0 x1) (ga (adC a) s.heap.size)) ([.int x0, .int x1, .ref w2] : List Value).toArray s 0 0 0 0 (ga (adC a) s.heap.size) = Z
  obtain ⟨A, hAe⟩ : ∃ A, A = ga (adC a) s.heap.size := ⟨_, rfl⟩
  rw [← hAe] at hst hAC hA0 hI hZ
  refine sv_start hI (fun H locs hI => ?_)
  obtain ⟨⟨o1, o2⟩, ⟨o3, o4⟩, ⟨o5, o6⟩, ⟨o7, o8⟩, ⟨o9, o10⟩, ⟨o11, o12⟩, ⟨o13, o14⟩, ⟨o15, o16⟩, ⟨o17, o18⟩, o19, -, -⟩ := id hok
  have gx0 := sn_rng x0
  have gx1 := sn_rng x1
  refine lv_iload_n hx hb d_Jp_checkIndex3_0 rfl (lv_at hl 0 rfl) ?_
  refine sn_if_lt (tgt := 9) hx hb d_Jp_checkIndex3_1 (by decide) (fun b20 => ?_) (fun b20 => ?_)
  · omega
  · refine lv_iload_n hx hb d_Jp_checkIndex3_4 rfl (lv_at hl 0 rfl) ?_
    refine lv_iload_n hx hb d_Jp_checkIndex3_5 rfl (lv_at hl 1 rfl) ?_
    refine sn_icmp_lt (tgt := 16) hx hb d_Jp_checkIndex3_6 (by decide) (fun b21 => ?_) (fun b21 => ?_)
    · refine lv_iload_n hx hb d_Jp_checkIndex3_16 rfl (lv_at hl 0 rfl) ?_
      subst hZ
      exact tz_ret (W.iret (v := x0) hx hb hr (fun t ht hW => ⟨⟨fun v9 hv9 => by cases hv9; exact (⟨x0, rfl, hok, by omega, by omega, by rw [ht]; exact hI.1⟩), fun x9 hx9 => (by cases hx9)⟩, hI.2.F ht⟩) hI.2.2.2 d_Jp_checkIndex3_17)
    · omega
abbrev q_Js_checkIndex2 (dC : Nat → ClassId) (dI : Nat → Nat → Nat) (cI cJ : ClassId) (a : Nat → Nat) (he dp co li op wd tl lc fo : Int) (sf lf nf : Nat → Int32) (x0 : Int32) (x1 : Int32) : Outcome → State → Prop := fun o t => (∀ v, o = .returned v → ((v = none ∧ okC he dp co li op wd tl lc fo sf lf nf ∧ sh_I (dC, dI) vcl cI cJ (gsC a he dp co li op wd tl lc fo sf lf nf) t.heap))) ∧ (∀ x, o = .threw x → (False))
def rm_Js_checkIndex2 : Room := { frames := 1, cells := 0, slots := 0, locals := 22 }
set_option maxHeartbeats 4000000 in
set_option maxRecDepth 100000 in
theorem c_Js_checkIndex2 (l : Launch) (hfl : l.flags = pinnedFlags ++ [noTraceFlag]) (dC : Nat → ClassId) (dI : Nat → Nat → Nat) (cI cJ : ClassId) (a : Nat → Nat) (sz : Nat) (he dp co li op wd tl lc fo : Int) (sf lf nf : Nat → Int32) (x0 : Int32) (x1 : Int32) (hok : okC he dp co li op wd tl lc fo sf lf nf) (hp0 : 0 ≤ x0.toInt) (hp1 : x0.toInt ≤ 23) (hp2 : 24 ≤ x1.toInt) (hp3 : x1.toInt ≤ 24) : tz_Met l ⟨"java/lang/String", "checkIndex", "(II)V"⟩ tw_tbl rm_Js_checkIndex2 (tzP (dC, dI) vcl cI cJ (gsC a he dp co li op wd tl lc fo sf lf nf) a (adC a) [.int x0, .int x1] sz) (tq_Q (q_Js_checkIndex2 dC dI cI cJ a he dp co li op wd tl lc fo sf lf nf x0 x1) (ga (adC a) sz)) 0 0 0 0 (ga (adC a) sz) := by
  refine tz_ofW (cc := prog_22_method_155_code) (maxL := 2) (ret := none) (by decide) (tx_isM mw_674) ?_
  intro p e s m args below meth c s₁ B hml hv
  obtain ⟨rfl, hsz, hI0, hK, hst0⟩ := hv
  have hx := B.exec
  have hb := B.bytes
  have hr := B.returns
  have hts := atoms_spec (ws := tw_tbl) B.pre
  have hown : s.vm.findClass "java/lang/String" = some m.cls := findClass_of_methodNamed B.named
  have hlocks := B.notSynchronized
  subst hsz
  have hst := fun (H : Heap) (locs : List Loc) (hS : va_S (ga (adC a) s.heap.size) s.heap H locs) (U : State) (hU : U.heap = H) (hW : s.WarmedH U.vm) => zS_all adC_map hI0 hst0 hS hU hW
  have hAC : ∀ q ∈ adC a, ga (adC a) s.heap.size q := fun q h => Or.inl h
  have hA0 : ∀ q, s.heap.size ≤ q → ga (adC a) s.heap.size q := fun q h => Or.inr h
  have hI : sI (dC, dI) vcl cI cJ (gsC a he dp co li op wd tl lc fo sf lf nf) (ga (adC a) s.heap.size) s.heap s.heap [] := ⟨hI0, va_S.rf⟩
  clear hI0 hst0
  have hl := lv_entry ([.int x0, .int x1]) (n := 2) (Nat.le_of_ble_eq_true rfl)
  rw [lg_entry_eq]
  generalize (lg_sl ([.int x0, .int x1]) ++ List.replicate (2 - (lg_sl ([.int x0, .int x1])).length) Slot.unset).toArray = ls at hl ⊢
  have hl : lv_has ls 2 [(0, .int x0), (1, .int x1)] := hl
  generalize hZ : tz_MQ below (tq_Q (q_Js_checkIndex2 dC dI cI cJ a he dp co li op wd tl lc fo sf lf nf x0 x1) (ga (adC a) s.heap.size)) ([.int x0, .int x1] : List Value).toArray s 0 0 0 0 (ga (adC a) s.heap.size) = Z
  obtain ⟨A, hAe⟩ : ∃ A, A = ga (adC a) s.heap.size := ⟨_, rfl⟩
  rw [← hAe] at hst hAC hA0 hI hZ
  refine sv_start hI (fun H locs hI => ?_)
  obtain ⟨⟨o1, o2⟩, ⟨o3, o4⟩, ⟨o5, o6⟩, ⟨o7, o8⟩, ⟨o9, o10⟩, ⟨o11, o12⟩, ⟨o13, o14⟩, ⟨o15, o16⟩, ⟨o17, o18⟩, o19, -, -⟩ := id hok
  have gx0 := sn_rng x0
  have gx1 := sn_rng x1
  refine lv_iload_n hx hb d_Js_checkIndex2_0 rfl (lv_at hl 0 rfl) ?_
  refine lv_iload_n hx hb d_Js_checkIndex2_1 rfl (lv_at hl 1 rfl) ?_
  refine sb_oob hx hb (hst _ [] va_S.rf s rfl (State.WarmedH.refl s)) hAe hI.2 hown (hts _ mw_675) d_Js_checkIndex2_2 ?_ (fun w20 => ?_)
  · refine tz_call (A1 := ga (adC a) H.size) (tz_runS (As := [.int x0, .int x1, .null]) (rest := []) ⟨hx, hb, hml, hown, hts⟩ (c_Jp_checkIndex3n l hfl dC dI cI cJ a H.size he dp co li op wd tl lc fo sf lf nf x0 x1 hok (by omega) (by omega) (by omega) (by omega)) (tx_cb (n := 3) hts rfl rfl ⟨Nat.le_of_ble_eq_true rfl, Nat.le_of_ble_eq_true rfl⟩ (tx_code.of (hts _ mw_679)) (hts _ mw_21) (by decide +kernel) (hts _ mw_677)) (hts _ mw_678) ⟨tz_blind, fun U hU hW => ⟨rfl, by rw [hU], by rw [hU]; exact hI.1, va_K.moved hW.alike hK, hst _ _ hI.2 U hU hW⟩⟩ rfl rfl hl.1 rfl (lv_room (Nat.le_of_ble_eq_true rfl)) d_Js_checkIndex2_5 ⟨Nat.le_of_ble_eq_true rfl, Nat.le_of_ble_eq_true rfl⟩) hI.2 (fun q _ h => ga_sub hAC hA0 hI.2 q h) (ga_sub hAC hA0 hI.2) (fun v t H1 locs1 ht hWt hpost _ _ hS => ?_) (fun x t H1 locs1 ht hWt hpost _ _ hS => (hpost.2 x rfl).elim)
    rcases hpost.1 _ rfl with ⟨z21, hv, c22, c22_0, c22_1, hI1⟩
    cases hv
    have hI : sI (dC, dI) vcl cI cJ (gsC a he dp co li op wd tl lc fo sf lf nf) A s.heap H1 locs1 := ⟨by rw [← ht]; exact hI1, hS⟩
    clear hpost hI1 hS ht hWt
    revert hI; generalize H1 = H; generalize locs1 = locs; intro hI
    refine lv_pop hx hb d_Js_checkIndex2_8 rfl ?_
    subst hZ
    exact tz_ret (W.vret hx hb hr (fun t ht hW => ⟨⟨fun v9 hv9 => by cases hv9; exact (⟨rfl, c22, by rw [ht]; exact hI.1⟩), fun x9 hx9 => (by cases hx9)⟩, hI.2.F ht⟩) hI.2.2.2 d_Js_checkIndex2_9)
  · refine tz_call (A1 := ga (adC a) H.size) (tz_runS (As := [.int x0, .int x1, .ref w20]) (rest := []) ⟨hx, hb, hml, hown, hts⟩ (c_Jp_checkIndex3 l hfl dC dI cI cJ a H.size he dp co li op wd tl lc fo sf lf nf w20 x0 x1 hok (by omega) (by omega) (by omega) (by omega)) (tx_cb (n := 3) hts rfl rfl ⟨Nat.le_of_ble_eq_true rfl, Nat.le_of_ble_eq_true rfl⟩ (tx_code.of (hts _ mw_679)) (hts _ mw_21) (by decide +kernel) (hts _ mw_677)) (hts _ mw_678) ⟨tz_blind, fun U hU hW => ⟨rfl, by rw [hU], by rw [hU]; exact hI.1, va_K.moved hW.alike hK, hst _ _ hI.2 U hU hW⟩⟩ rfl rfl hl.1 rfl (lv_room (Nat.le_of_ble_eq_true rfl)) d_Js_checkIndex2_5 ⟨Nat.le_of_ble_eq_true rfl, Nat.le_of_ble_eq_true rfl⟩) hI.2 (fun q _ h => ga_sub hAC hA0 hI.2 q h) (ga_sub hAC hA0 hI.2) (fun v t H1 locs1 ht hWt hpost _ _ hS => ?_) (fun x t H1 locs1 ht hWt hpost _ _ hS => (hpost.2 x rfl).elim)
    rcases hpost.1 _ rfl with ⟨z23, hv, c24, c24_0, c24_1, hI1⟩
    cases hv
    have hI : sI (dC, dI) vcl cI cJ (gsC a he dp co li op wd tl lc fo sf lf nf) A s.heap H1 locs1 := ⟨by rw [← ht]; exact hI1, hS⟩
    clear hpost hI1 hS ht hWt
    revert hI; generalize H1 = H; generalize locs1 = locs; intro hI
    refine lv_pop hx hb d_Js_checkIndex2_8 rfl ?_
    subst hZ
    exact tz_ret (W.vret hx hb hr (fun t ht hW => ⟨⟨fun v9 hv9 => by cases hv9; exact (⟨rfl, c24, by rw [ht]; exact hI.1⟩), fun x9 hx9 => (by cases hx9)⟩, hI.2.F ht⟩) hI.2.2.2 d_Js_checkIndex2_9)
