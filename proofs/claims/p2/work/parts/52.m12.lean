abbrev q_Di_entryOf (dC : Nat → ClassId) (dI : Nat → Nat → Nat) (cI cJ : ClassId) (a : Nat → Nat) (he dp co li op wd tl lc fo : Int) (sf lf nf : Nat → Int32) (x2 : Int32) : Outcome → State → Prop := fun o t => (∀ v, o = .returned v → ((∃ (z : Int32) (lc_ : Int), v = some (.int z) ∧ okC he dp co li op wd tl lc_ fo sf lf nf ∧ (0 ≤ z.toInt) ∧ (z.toInt ≤ 510) ∧ sh_I (dC, dI) vcl cI cJ (gsC a he dp co li op wd tl lc_ fo sf lf nf) t.heap))) ∧ (∀ x, o = .threw x → ((∃ (lc_ : Int), ta_Ex "java/lang/IllegalArgumentException" x t ∧ okC he dp co li op wd tl lc_ fo sf lf nf ∧ sh_I (dC, dI) vcl cI cJ (gsC a he dp co li op wd tl lc_ fo sf lf nf) t.heap)))
def rm_Di_entryOf : Room := { frames := 8, cells := 1, slots := 6, locals := 172 }
set_option maxHeartbeats 4000000 in
set_option maxRecDepth 100000 in
theorem c_Di_entryOf (l : Launch) (hfl : l.flags = pinnedFlags ++ [noTraceFlag]) (dC : Nat → ClassId) (dI : Nat → Nat → Nat) (cI cJ : ClassId) (a : Nat → Nat) (sz : Nat) (he dp co li op wd tl lc fo : Int) (sf lf nf : Nat → Int32) (x2 : Int32) (hok : okC he dp co li op wd tl lc fo sf lf nf) (hp0 : 0 ≤ x2.toInt) (hp1 : x2.toInt ≤ 23) : tz_Met l ⟨"StoryMachine$Dictionary", "entryOf", "([II)I"⟩ tw_tbl rm_Di_entryOf (tzP (dC, dI) vcl cI cJ (gsC a he dp co li op wd tl lc fo sf lf nf) a (adC a) [.ref (a 18), .ref (a 8), .int x2] sz) (tq_Q (q_Di_entryOf dC dI cI cJ a he dp co li op wd tl lc fo sf lf nf x2) (ga (adC a) sz)) 0 0 1 6 (ga (adC a) sz) := by
  refine tz_ofW (cc := prog_3_method_5_code) (maxL := 12) (ret := (some .int)) (by decide) (tx_isM mw_914) ?_
  intro p e s m args below meth c s₁ B hml hv
  obtain ⟨rfl, hsz, hI0, hK, hst0⟩ := hv
  have hx := B.exec
  have hb := B.bytes
  have hr := B.returns
  have hts := atoms_spec (ws := tw_tbl) B.pre
  have hown : s.vm.findClass "StoryMachine$Dictionary" = some m.cls := findClass_of_methodNamed B.named
  have hlocks := B.notSynchronized
  subst hsz
  have hst := fun (H : Heap) (locs : List Loc) (hS : va_S (ga (adC a) s.heap.size) s.heap H locs) (U : State) (hU : U.heap = H) (hW : s.WarmedH U.vm) => zS_all adC_map hI0 hst0 hS hU hW
  have hAC : ∀ q ∈ adC a, ga (adC a) s.heap.size q := fun q h => Or.inl h
  have hA0 : ∀ q, s.heap.size ≤ q → ga (adC a) s.heap.size q := fun q h => Or.inr h
  have hI : sI (dC, dI) vcl cI cJ (gsC a he dp co li op wd tl lc fo sf lf nf) (ga (adC a) s.heap.size) s.heap s.heap [] := ⟨hI0, va_S.rf⟩
  clear hI0 hst0
  have hl := lv_entry ([.ref (a 18), .ref (a 8), .int x2]) (n := 12) (Nat.le_of_ble_eq_true rfl)
  rw [lg_entry_eq]
  generalize (lg_sl ([.ref (a 18), .ref (a 8), .int x2]) ++ List.replicate (12 - (lg_sl ([.ref (a 18), .ref (a 8), .int x2])).length) Slot.unset).toArray = ls at hl ⊢
  have hl : lv_has ls 12 [(0, .ref (a 18)), (1, .ref (a 8)), (2, .int x2)] := hl
  generalize hZ : tz_MQ below (tq_Q (q_Di_entryOf dC dI cI cJ a he dp co li op wd tl lc fo sf lf nf x2) (ga (adC a) s.heap.size)) ([.ref (a 18), .ref (a 8), .int x2] : List Value).toArray s 0 0 1 6 (ga (adC a) s.heap.size) = Z
  obtain ⟨A, hAe⟩ : ∃ A, A = ga (adC a) s.heap.size := ⟨_, rfl⟩
  rw [← hAe] at hst hAC hA0 hI hZ
  refine sv_start hI (fun H locs hI => ?_)
  obtain ⟨⟨o1, o2⟩, ⟨o3, o4⟩, ⟨o5, o6⟩, ⟨o7, o8⟩, ⟨o9, o10⟩, ⟨o11, o12⟩, ⟨o13, o14⟩, ⟨o15, o16⟩, ⟨o17, o18⟩, o19, -, -⟩ := id hok
  have gx2 := sn_rng x2
  have j107 : ∀ (n : Nat) (H : Heap) (locs : List Loc) (ls : Array Slot) (v107_3 v107_4 v107_5 v107_6 v107_7 v107_8 v107_9 : Int32) (t107_lc : Int), sI (dC, dI) vcl cI cJ (gsC a he dp co li op wd tl t107_lc fo sf lf nf) A s.heap H locs → okC he dp co li op wd tl t107_lc fo sf lf nf → (-2147483648) ≤ v107_3.toInt → v107_3.toInt ≤ 2147483647 → (-2147483648) ≤ v107_4.toInt → v107_4.toInt ≤ 2147483647 → 1 ≤ v107_5.toInt → v107_5.toInt ≤ 511 → 5 ≤ v107_6.toInt → v107_6.toInt ≤ 255 → 0 ≤ v107_7.toInt → v107_7.toInt ≤ 65535 → 4 ≤ v107_8.toInt → v107_8.toInt ≤ 765 → 0 ≤ v107_9.toInt → v107_9.toInt ≤ 65535 → lv_has ls 12 [(0, .ref (a 18)), (1, .ref (a 8)), (2, .int x2), (3, .int v107_3), (4, .int v107_4), (5, .int v107_5), (6, .int v107_6), (7, .int v107_7), (8, .int v107_8), (9, .int v107_9)] → 65535 - v107_9.toInt < (n : Int) → W p l e (headSpec tw_tbl rm_Di_entryOf).room s m ([.ref (a 18), .ref (a 8), .int x2] : List Value).toArray below meth c H locs 0 0 Z (F0 m 107 ls []) := by
    intro n
    induction n with
    | zero => intro H locs ls v107_3 v107_4 v107_5 v107_6 v107_7 v107_8 v107_9 t107_lc hI hok g107_0 g107_1 g107_2 g107_3 g107_4 g107_5 g107_6 g107_7 g107_8 g107_9 g107_10 g107_11 g107_12 g107_13 hl hme; exfalso; obtain ⟨⟨o20, o21⟩, ⟨o22, o23⟩, ⟨o24, o25⟩, ⟨o26, o27⟩, ⟨o28, o29⟩, ⟨o30, o31⟩, ⟨o32, o33⟩, ⟨o34, o35⟩, ⟨o36, o37⟩, o38, -, -⟩ := id hok; omega
    | succ n ih =>
      intro H locs ls v107_3 v107_4 v107_5 v107_6 v107_7 v107_8 v107_9 t107_lc hI hok g107_0 g107_1 g107_2 g107_3 g107_4 g107_5 g107_6 g107_7 g107_8 g107_9 g107_10 g107_11 g107_12 g107_13 hl hme
      obtain ⟨⟨o39, o40⟩, ⟨o41, o42⟩, ⟨o43, o44⟩, ⟨o45, o46⟩, ⟨o47, o48⟩, ⟨o49, o50⟩, ⟨o51, o52⟩, ⟨o53, o54⟩, ⟨o55, o56⟩, o57, -, -⟩ := id hok
      have j154 : ∀ (H : Heap) (locs : List Loc) (ls : Array Slot) (v154_10 v154_11 : Int32), sI (dC, dI) vcl cI cJ (gsC a he dp co li op wd tl t107_lc fo sf lf nf) A s.heap H locs → okC he dp co li op wd tl t107_lc fo sf lf nf → 0 ≤ v154_10.toInt → v154_10.toInt ≤ 65535 → 0 ≤ v154_11.toInt → v154_11.toInt ≤ 65535 → 1 ≤ v107_7.toInt → v107_8.toInt ≤ 510 → v107_9.toInt ≤ 65534 → lv_has ls 12 [(0, .ref (a 18)), (1, .ref (a 8)), (2, .int x2), (3, .int v107_3), (4, .int v107_4), (5, .int v107_5), (6, .int v107_6), (7, .int v107_7), (8, .int v107_8), (9, .int v107_9), (10, .int v154_10), (11, .int v154_11)] → W p l e (headSpec tw_tbl rm_Di_entryOf).room s m ([.ref (a 18), .ref (a 8), .int x2] : List Value).toArray below meth c H locs 0 0 Z (F0 m 154 ls []) := by
        intro H locs ls v154_10 v154_11 hI hok g154_0 g154_1 g154_2 g154_3 g154_4 g154_5 g154_6 hl
        obtain ⟨⟨o58, o59⟩, ⟨o60, o61⟩, ⟨o62, o63⟩, ⟨o64, o65⟩, ⟨o66, o67⟩, ⟨o68, o69⟩, ⟨o70, o71⟩, ⟨o72, o73⟩, ⟨o74, o75⟩, o76, -, -⟩ := id hok
        refine lv_iload hx hb d_Di_entryOf_154 (lv_at hl 8 rfl) ?_
        refine lv_iload hx hb d_Di_entryOf_156 (lv_at hl 6 rfl) ?_
        refine sn_iadd hx hb d_Di_entryOf_158 (by omega) (by omega) (fun z77 hz77 => ?_)
        refine lv_istore (lv' := [(8, .int z77), (0, .ref (a 18)), (1, .ref (a 8)), (2, .int x2), (3, .int v107_3), (4, .int v107_4), (5, .int v107_5), (6, .int v107_6), (7, .int v107_7), (9, .int v107_9), (10, .int v154_10), (11, .int v154_11)]) hx hb d_Di_entryOf_159 hl (by decide) rfl (fun ls hl => ?_)
        refine sn_iinc (k := 9) hx hb d_Di_entryOf_161 hl rfl (by decide) (by decide) (by omega) (by omega) (fun ls z78 hz78 hl => ?_)
        have hl : lv_has ls 12 [(9, .int z78), (8, .int z77), (0, .ref (a 18)), (1, .ref (a 8)), (2, .int x2), (3, .int v107_3), (4, .int v107_4), (5, .int v107_5), (6, .int v107_6), (7, .int v107_7), (10, .int v154_10), (11, .int v154_11)] := hl
        refine lv_goto (tgt := 107) hx hb d_Di_entryOf_164 (by decide) ?_
        exact ih _ _ _ v107_3 v107_4 v107_5 v107_6 v107_7 z77 z78 t107_lc hI hok (by omega) (by omega) (by omega) (by omega) (by omega) (by omega) (by omega) (by omega) (by omega) (by omega) (by omega) (by omega) (by omega) (by omega) (lv_sub hl [2, 3, 4, 5, 6, 7, 8, 9, 1, 0] rfl) (by omega)
      refine lv_iload hx hb d_Di_entryOf_107 (lv_at hl 9 rfl) ?_
      refine lv_iload hx hb d_Di_entryOf_109 (lv_at hl 7 rfl) ?_
      refine sn_icmp_ge (tgt := 167) hx hb d_Di_entryOf_111 (by decide) (fun b79 => ?_) (fun b79 => ?_)
      · refine sn_iconst hx hb d_Di_entryOf_167 (by decide) (fun z80 hz80 => ?_)
        subst hZ
        exact tz_ret (W.iret (v := z80) hx hb hr (fun t ht hW => ⟨⟨fun v9 hv9 => by cases hv9; exact (⟨z80, t107_lc, rfl, hok, by omega, by omega, by rw [ht]; exact hI.1⟩), fun x9 hx9 => (by cases hx9)⟩, hI.2.F ht⟩) hI.2.2.2 d_Di_entryOf_168)
      · refine lv_aload_n hx hb d_Di_entryOf_114 rfl (lv_at hl 0 rfl) ?_
        refine sv_getr (C := "StoryMachine$Dictionary") (T := T_Di) (N := 6) hx hb hts in_Di hown hK hI 18 kC_18 rfl 0 (by decide) (hts _ mw_191) rfl d_Di_entryOf_115 ?_
        refine lv_iload hx hb d_Di_entryOf_118 (lv_at hl 8 rfl) ?_
        refine tz_call (A1 := ga (adC a) H.size) (tz_runV (C := "StoryMachine$Memory") (As := [.int v107_8]) (rest := []) ⟨hx, hb, hml, hown, hts⟩ (c_Me_wordAt l hfl dC dI cI cJ a H.size he dp co li op wd tl t107_lc fo sf lf nf v107_8 hok) (tx_cb (n := 1) hts rfl rfl ⟨Nat.le_of_ble_eq_true rfl, Nat.le_of_ble_eq_true rfl⟩ (tx_code.of (hts _ mw_440)) (hts _ mw_2) (by decide +kernel) (hts _ mw_905)) (hts _ mw_438) (hts _ mw_439) ⟨tz_blind, sv_recv (q0 := 1) hts in_Me hK hI kC_1 rfl, fun U hU hW => ⟨rfl, by rw [hU], by rw [hU]; exact hI.1, va_K.moved hW.alike hK, hst _ _ hI.2 U hU hW⟩⟩ rfl rfl hl.1 rfl (lv_room (Nat.le_of_ble_eq_true rfl)) d_Di_entryOf_120 ⟨Nat.le_of_ble_eq_true rfl, Nat.le_of_ble_eq_true rfl⟩) hI.2 (fun q _ h => ga_sub hAC hA0 hI.2 q h) (ga_sub hAC hA0 hI.2) (fun v t H1 locs1 ht hWt hpost _ _ hS => ?_) (fun x t H1 locs1 ht hWt hpost _ _ hS => ?_)
        · rcases hpost.1 _ rfl with ⟨z81, hv, c82, c82_0, c82_1, c82_2, c82_3, hI1⟩
          cases hv
          have hI : sI (dC, dI) vcl cI cJ (gsC a he dp co li op wd tl t107_lc fo sf lf nf) A s.heap H1 locs1 := ⟨by rw [← ht]; exact hI1, hS⟩
          clear hpost hI1 hS ht hWt
          revert hI; generalize H1 = H; generalize locs1 = locs; intro hI
          refine lv_istore (lv' := [(10, .int z81), (0, .ref (a 18)), (1, .ref (a 8)), (2, .int x2), (3, .int v107_3), (4, .int v107_4), (5, .int v107_5), (6, .int v107_6), (7, .int v107_7), (8, .int v107_8), (9, .int v107_9)]) hx hb d_Di_entryOf_123 hl (by decide) rfl (fun ls hl => ?_)
          refine lv_aload_n hx hb d_Di_entryOf_125 rfl (lv_at hl 1 rfl) ?_
          refine sv_getr (C := "StoryMachine$Dictionary") (T := T_Di) (N := 6) hx hb hts in_Di hown hK hI 18 kC_18 rfl 0 (by decide) (hts _ mw_191) rfl d_Di_entryOf_126 ?_
          refine lv_iload hx hb d_Di_entryOf_129 (lv_at hl 9 rfl) ?_
          refine sn_iconst hx hb d_Di_entryOf_131 (by decide) (fun z83 hz83 => ?_)
          refine sn_iadd hx hb d_Di_entryOf_132 (by omega) (by omega) (fun z84 hz84 => ?_)
          refine tz_call (A1 := ga (adC a) H.size) (tz_runV (C := "StoryMachine$Memory") (As := [.int z84]) (rest := []) ⟨hx, hb, hml, hown, hts⟩ (c_Me_wordAt l hfl dC dI cI cJ a H.size he dp co li op wd tl t107_lc fo sf lf nf z84 c82) (tx_cb (n := 1) hts rfl rfl ⟨Nat.le_of_ble_eq_true rfl, Nat.le_of_ble_eq_true rfl⟩ (tx_code.of (hts _ mw_440)) (hts _ mw_2) (by decide +kernel) (hts _ mw_905)) (hts _ mw_438) (hts _ mw_439) ⟨tz_blind, sv_recv (q0 := 1) hts in_Me hK hI kC_1 rfl, fun U hU hW => ⟨rfl, by rw [hU], by rw [hU]; exact hI.1, va_K.moved hW.alike hK, hst _ _ hI.2 U hU hW⟩⟩ rfl rfl hl.1 rfl (lv_room (Nat.le_of_ble_eq_true rfl)) d_Di_entryOf_133 ⟨Nat.le_of_ble_eq_true rfl, Nat.le_of_ble_eq_true rfl⟩) hI.2 (fun q _ h => ga_sub hAC hA0 hI.2 q h) (ga_sub hAC hA0 hI.2) (fun v t H1 locs1 ht hWt hpost _ _ hS => ?_) (fun x t H1 locs1 ht hWt hpost _ _ hS => ?_)
          · rcases hpost.1 _ rfl with ⟨z85, hv, c86, c86_0, c86_1, c86_2, c86_3, hI1⟩
            cases hv
            have hI : sI (dC, dI) vcl cI cJ (gsC a he dp co li op wd tl t107_lc fo sf lf nf) A s.heap H1 locs1 := ⟨by rw [← ht]; exact hI1, hS⟩
            clear hpost hI1 hS ht hWt
            revert hI; generalize H1 = H; generalize locs1 = locs; intro hI
            refine lv_istore (lv' := [(11, .int z85), (10, .int z81), (0, .ref (a 18)), (1, .ref (a 8)), (2, .int x2), (3, .int v107_3), (4, .int v107_4), (5, .int v107_5), (6, .int v107_6), (7, .int v107_7), (8, .int v107_8), (9, .int v107_9)]) hx hb d_Di_entryOf_136 hl (by decide) rfl (fun ls hl => ?_)
            refine lv_iload hx hb d_Di_entryOf_138 (lv_at hl 1 rfl) ?_
            refine lv_iload_n hx hb d_Di_entryOf_140 rfl (lv_at hl 5 rfl) ?_
            refine sn_icmp_ne (tgt := 154) hx hb d_Di_entryOf_141 (by decide) (fun b87 => ?_) (fun b87 => ?_)
            · exact j154 _ _ _ z81 z85 hI c86 (by omega) (by omega) (by omega) (by omega) (by omega) (by omega) (by omega) (lv_sub hl [2, 3, 4, 5, 6, 7, 8, 9, 10, 11, 1, 0] rfl)
            · refine lv_iload hx hb d_Di_entryOf_144 (lv_at hl 0 rfl) ?_
              refine lv_iload hx hb d_Di_entryOf_146 (lv_at hl 6 rfl) ?_
              refine sn_icmp_ne (tgt := 154) hx hb d_Di_entryOf_148 (by decide) (fun b88 => ?_) (fun b88 => ?_)
              · exact j154 _ _ _ z81 z85 hI c86 (by omega) (by omega) (by omega) (by omega) (by omega) (by omega) (by omega) (lv_sub hl [2, 3, 4, 5, 6, 7, 8, 9, 10, 11, 1, 0] rfl)
              · refine lv_iload hx hb d_Di_entryOf_151 (lv_at hl 10 rfl) ?_
                subst hZ
                exact tz_ret (W.iret (v := v107_8) hx hb hr (fun t ht hW => ⟨⟨fun v9 hv9 => by cases hv9; exact (⟨v107_8, t107_lc, rfl, c86, by omega, by omega, by rw [ht]; exact hI.1⟩), fun x9 hx9 => (by cases hx9)⟩, hI.2.F ht⟩) hI.2.2.2 d_Di_entryOf_153)
          · rcases hpost.2 _ rfl with ⟨hex, c89, hI1⟩
            have hI : sI (dC, dI) vcl cI cJ (gsC a he dp co li op wd tl t107_lc fo sf lf nf) A s.heap H1 locs1 := ⟨by rw [← ht]; exact hI1, hS⟩
            refine tz_widen (k := 1) (n := 6) (Nat.le_of_ble_eq_true rfl) (Nat.le_of_ble_eq_true rfl) ?_
            subst hZ
            exact tz_leave (tx_noH B (hts _ mw_914) _) (fun t9 ht9 hW9 => ⟨⟨fun v9 hv9 => (by cases hv9), fun x9 hx9 => by cases hx9; exact (⟨t107_lc, ta_exm hex ht ht9 hWt hW9, c89, by rw [ht9]; exact hI.1⟩)⟩, hI.2.F ht9⟩) hI.2.2.2 hlocks
        · rcases hpost.2 _ rfl with ⟨hex, c90, hI1⟩
          have hI : sI (dC, dI) vcl cI cJ (gsC a he dp co li op wd tl t107_lc fo sf lf nf) A s.heap H1 locs1 := ⟨by rw [← ht]; exact hI1, hS⟩
          refine tz_widen (k := 1) (n := 6) (Nat.le_of_ble_eq_true rfl) (Nat.le_of_ble_eq_true rfl) ?_
          subst hZ
          exact tz_leave (tx_noH B (hts _ mw_914) _) (fun t9 ht9 hW9 => ⟨⟨fun v9 hv9 => (by cases hv9), fun x9 hx9 => by cases hx9; exact (⟨t107_lc, ta_exm hex ht ht9 hWt hW9, c90, by rw [ht9]; exact hI.1⟩)⟩, hI.2.F ht9⟩) hI.2.2.2 hlocks
  refine lv_aload_n hx hb d_Di_entryOf_0 rfl (lv_at hl 0 rfl) ?_
  refine lv_aload_n hx hb d_Di_entryOf_1 rfl (lv_at hl 1 rfl) ?_
  refine lv_aload_n hx hb d_Di_entryOf_2 rfl (lv_at hl 0 rfl) ?_
  refine sv_getr (C := "StoryMachine$Dictionary") (T := T_Di) (N := 6) hx hb hts in_Di hown hK hI 18 kC_18 rfl 1 (by decide) (hts _ mw_192) rfl d_Di_entryOf_3 ?_
  refine lv_iload_n hx hb d_Di_entryOf_6 rfl (lv_at hl 2 rfl) ?_
  refine sv_ialde hx hb hK hI 22 kC_22 (by omega) (by omega) d_Di_entryOf_7 (fun z91 hz91 => ?_)
  have hz91r := hok.2.2.2.2.2.2.2.2.2.2.1 (x2.toNatClampNeg)
  rw [← hz91] at hz91r
  have hz91x : z91.toInt = (sf x2.toInt.toNat).toInt := by rw [hz91]; rfl
  have hz91w : z91.toInt = (sf x2.toNatClampNeg).toInt := by rw [hz91]
  refine lv_aload_n hx hb d_Di_entryOf_8 rfl (lv_at hl 0 rfl) ?_
  refine sv_getr (C := "StoryMachine$Dictionary") (T := T_Di) (N := 6) hx hb hts in_Di hown hK hI 18 kC_18 rfl 2 (by decide) (hts _ mw_194) rfl d_Di_entryOf_9 ?_
  refine lv_iload_n hx hb d_Di_entryOf_12 rfl (lv_at hl 2 rfl) ?_
  refine sv_ialde hx hb hK hI 23 kC_23 (by omega) (by omega) d_Di_entryOf_13 (fun z92 hz92 => ?_)
  have hz92r := hok.2.2.2.2.2.2.2.2.2.2.1 (x2.toNatClampNeg)
  rw [← hz92] at hz92r
  have hz92x : z92.toInt = (lf x2.toInt.toNat).toInt := by rw [hz92]; rfl
  have hz92w : z92.toInt = (lf x2.toNatClampNeg).toInt := by rw [hz92]
  refine tz_call (A1 := ga (adC a) H.size) (tz_runV (C := "StoryMachine$Dictionary") (As := [.ref (a 8), .int z91, .int z92]) (rest := []) ⟨hx, hb, hml, hown, hts⟩ (c_Di_pack l hfl dC dI cI cJ a H.size he dp co li op wd tl lc fo sf lf nf z91 z92 hok (by omega) (by omega) (by omega) (by omega) (by omega)) (tx_cb (n := 3) hts rfl rfl ⟨Nat.le_of_ble_eq_true rfl, Nat.le_of_ble_eq_true rfl⟩ (tx_code.of (hts _ mw_918)) (hts _ mw_10) (by decide +kernel) (hts _ mw_915)) (hts _ mw_917) (hts _ ms_Di_pack) ⟨tz_blind, sv_recv (q0 := 18) hts in_Di hK hI kC_18 rfl, fun U hU hW => ⟨rfl, by rw [hU], by rw [hU]; exact hI.1, va_K.moved hW.alike hK, hst _ _ hI.2 U hU hW⟩⟩ rfl rfl hl.1 rfl (lv_room (Nat.le_of_ble_eq_true rfl)) d_Di_entryOf_14 ⟨Nat.le_of_ble_eq_true rfl, Nat.le_of_ble_eq_true rfl⟩) hI.2 (fun q _ h => ga_sub hAC hA0 hI.2 q h) (ga_sub hAC hA0 hI.2) (fun v t H1 locs1 ht hWt hpost _ _ hS => ?_) (fun x t H1 locs1 ht hWt hpost _ _ hS => (hpost.2 x rfl).elim)
  rcases hpost.1 _ rfl with ⟨t_lc93, hv, c94, hI1⟩
  cases hv
  have hI : sI (dC, dI) vcl cI cJ (gsC a he dp co li op wd tl t_lc93 fo sf lf nf) A s.heap H1 locs1 := ⟨by rw [← ht]; exact hI1, hS⟩
  obtain ⟨-, -, -, -, -, -, -, ⟨o95, o96⟩, -, -, -, -⟩ := id c94
  clear hpost hI1 hS ht hWt
  revert hI; generalize H1 = H; generalize locs1 = locs; intro hI
  refine lv_aload_n hx hb d_Di_entryOf_17 rfl (lv_at hl 0 rfl) ?_
  refine sn_iconst hx hb d_Di_entryOf_18 (by decide) (fun z97 hz97 => ?_)
  refine tz_call (A1 := ga (adC a) H.size) (tz_runV (C := "StoryMachine$Dictionary") (As := [.int z97]) (rest := []) ⟨hx, hb, hml, hown, hts⟩ (c_Di_packedWord l hfl dC dI cI cJ a H.size he dp co li op wd tl t_lc93 fo sf lf nf z97 c94 (by omega) (by omega)) (tx_cb (n := 1) hts rfl rfl ⟨Nat.le_of_ble_eq_true rfl, Nat.le_of_ble_eq_true rfl⟩ (tx_code.of (hts _ mw_995)) (hts _ mw_10) (by decide +kernel) (hts _ mw_992)) (hts _ mw_994) (hts _ ms_Di_packedWord) ⟨tz_blind, sv_recv (q0 := 18) hts in_Di hK hI kC_18 rfl, fun U hU hW => ⟨rfl, by rw [hU], by rw [hU]; exact hI.1, va_K.moved hW.alike hK, hst _ _ hI.2 U hU hW⟩⟩ rfl rfl hl.1 rfl (lv_room (Nat.le_of_ble_eq_true rfl)) d_Di_entryOf_19 ⟨Nat.le_of_ble_eq_true rfl, Nat.le_of_ble_eq_true rfl⟩) hI.2 (fun q _ h => ga_sub hAC hA0 hI.2 q h) (ga_sub hAC hA0 hI.2) (fun v t H1 locs1 ht hWt hpost _ _ hS => ?_) (fun x t H1 locs1 ht hWt hpost _ _ hS => (hpost.2 x rfl).elim)
  rcases hpost.1 _ rfl with ⟨z98, hv, c99, c99_0, c99_1, hI1⟩
  cases hv
  have hI : sI (dC, dI) vcl cI cJ (gsC a he dp co li op wd tl t_lc93 fo sf lf nf) A s.heap H1 locs1 := ⟨by rw [← ht]; exact hI1, hS⟩
  clear hpost hI1 hS ht hWt
  revert hI; generalize H1 = H; generalize locs1 = locs; intro hI
  refine lv_istore_n (lv' := [(3, .int z98), (0, .ref (a 18)), (1, .ref (a 8)), (2, .int x2)]) hx hb d_Di_entryOf_22 rfl hl (by decide) rfl (fun ls hl => ?_)
  refine lv_aload_n hx hb d_Di_entryOf_23 rfl (lv_at hl 1 rfl) ?_
  refine sn_iconst hx hb d_Di_entryOf_24 (by decide) (fun z100 hz100 => ?_)
  refine tz_call (A1 := ga (adC a) H.size) (tz_runV (C := "StoryMachine$Dictionary") (As := [.int z100]) (rest := []) ⟨hx, hb, hml, hown, hts⟩ (c_Di_packedWord l hfl dC dI cI cJ a H.size he dp co li op wd tl t_lc93 fo sf lf nf z100 c99 (by omega) (by omega)) (tx_cb (n := 1) hts rfl rfl ⟨Nat.le_of_ble_eq_true rfl, Nat.le_of_ble_eq_true rfl⟩ (tx_code.of (hts _ mw_995)) (hts _ mw_10) (by decide +kernel) (hts _ mw_992)) (hts _ mw_994) (hts _ ms_Di_packedWord) ⟨tz_blind, sv_recv (q0 := 18) hts in_Di hK hI kC_18 rfl, fun U hU hW => ⟨rfl, by rw [hU], by rw [hU]; exact hI.1, va_K.moved hW.alike hK, hst _ _ hI.2 U hU hW⟩⟩ rfl rfl hl.1 rfl (lv_room (Nat.le_of_ble_eq_true rfl)) d_Di_entryOf_25 ⟨Nat.le_of_ble_eq_true rfl, Nat.le_of_ble_eq_true rfl⟩) hI.2 (fun q _ h => ga_sub hAC hA0 hI.2 q h) (ga_sub hAC hA0 hI.2) (fun v t H1 locs1 ht hWt hpost _ _ hS => ?_) (fun x t H1 locs1 ht hWt hpost _ _ hS => (hpost.2 x rfl).elim)
  rcases hpost.1 _ rfl with ⟨z101, hv, c102, c102_0, c102_1, hI1⟩
  cases hv
  have hI : sI (dC, dI) vcl cI cJ (gsC a he dp co li op wd tl t_lc93 fo sf lf nf) A s.heap H1 locs1 := ⟨by rw [← ht]; exact hI1, hS⟩
  clear hpost hI1 hS ht hWt
  revert hI; generalize H1 = H; generalize locs1 = locs; intro hI
  refine sn_ldc (n := 32768) hx hb hown (hts _ mw_996) d_Di_entryOf_28 (by decide) (fun z103 hz103 => ?_)
  refine sn_iorT hx hb d_Di_entryOf_30 (fun z104 hz104a hz104b => ?_)
  refine lv_istore (lv' := [(4, .int z104), (3, .int z98), (0, .ref (a 18)), (1, .ref (a 8)), (2, .int x2)]) hx hb d_Di_entryOf_31 hl (by decide) rfl (fun ls hl => ?_)
  refine lv_aload_n hx hb d_Di_entryOf_33 rfl (lv_at hl 2 rfl) ?_
  refine sv_getr (C := "StoryMachine$Dictionary") (T := T_Di) (N := 6) hx hb hts in_Di hown hK hI 18 kC_18 rfl 0 (by decide) (hts _ mw_191) rfl d_Di_entryOf_34 ?_
  refine sn_bipush hx hb d_Di_entryOf_37 (by decide) (fun z105 hz105 => ?_)
  refine tz_call (A1 := ga (adC a) H.size) (tz_runV (C := "StoryMachine$Memory") (As := [.int z105]) (rest := []) ⟨hx, hb, hml, hown, hts⟩ (c_Me_wordAts l hfl dC dI cI cJ a H.size he dp co li op wd tl t_lc93 fo sf lf nf z105 c102 (by omega) (by omega)) (tx_cb (n := 1) hts rfl rfl ⟨Nat.le_of_ble_eq_true rfl, Nat.le_of_ble_eq_true rfl⟩ (tx_code.of (hts _ mw_440)) (hts _ mw_2) (by decide +kernel) (hts _ mw_905)) (hts _ mw_438) (hts _ mw_439) ⟨tz_blind, sv_recv (q0 := 1) hts in_Me hK hI kC_1 rfl, fun U hU hW => ⟨rfl, by rw [hU], by rw [hU]; exact hI.1, va_K.moved hW.alike hK, hst _ _ hI.2 U hU hW⟩⟩ rfl rfl hl.1 rfl (lv_room (Nat.le_of_ble_eq_true rfl)) d_Di_entryOf_39 ⟨Nat.le_of_ble_eq_true rfl, Nat.le_of_ble_eq_true rfl⟩) hI.2 (fun q _ h => ga_sub hAC hA0 hI.2 q h) (ga_sub hAC hA0 hI.2) (fun v t H1 locs1 ht hWt hpost _ _ hS => ?_) (fun x t H1 locs1 ht hWt hpost _ _ hS => (hpost.2 x rfl).elim)
  rcases hpost.1 _ rfl with ⟨z106, hv, c107, c107_0, c107_1, hI1⟩
  cases hv
  have hI : sI (dC, dI) vcl cI cJ (gsC a he dp co li op wd tl t_lc93 fo sf lf nf) A s.heap H1 locs1 := ⟨by rw [← ht]; exact hI1, hS⟩
  clear hpost hI1 hS ht hWt
  revert hI; generalize H1 = H; generalize locs1 = locs; intro hI
  refine lv_istore (lv' := [(5, .int z106), (4, .int z104), (3, .int z98), (0, .ref (a 18)), (1, .ref (a 8)), (2, .int x2)]) hx hb d_Di_entryOf_42 hl (by decide) rfl (fun ls hl => ?_)
  refine lv_iload hx hb d_Di_entryOf_44 (lv_at hl 0 rfl) ?_
  refine sn_iconst hx hb d_Di_entryOf_46 (by decide) (fun z108 hz108 => ?_)
  refine lv_aload_n hx hb d_Di_entryOf_47 rfl (lv_at hl 3 rfl) ?_
  refine sv_getr (C := "StoryMachine$Dictionary") (T := T_Di) (N := 6) hx hb hts in_Di hown hK hI 18 kC_18 rfl 0 (by decide) (hts _ mw_191) rfl d_Di_entryOf_48 ?_
  refine lv_iload hx hb d_Di_entryOf_51 (lv_at hl 0 rfl) ?_
  refine tz_call (A1 := ga (adC a) H.size) (tz_runV (C := "StoryMachine$Memory") (As := [.int z106]) (rest := [.int z108, .int z106]) ⟨hx, hb, hml, hown, hts⟩ (c_Me_byteAt l hfl dC dI cI cJ a H.size he dp co li op wd tl t_lc93 fo sf lf nf z106 c107) (tx_cb (n := 1) hts rfl rfl ⟨Nat.le_of_ble_eq_true rfl, Nat.le_of_ble_eq_true rfl⟩ (tx_code.of (hts _ mw_511)) (hts _ mw_2) (by decide +kernel) (hts _ mw_906)) (hts _ mw_509) (hts _ mw_510) ⟨tz_blind, sv_recv (q0 := 1) hts in_Me hK hI kC_1 rfl, fun U hU hW => ⟨rfl, by rw [hU], by rw [hU]; exact hI.1, va_K.moved hW.alike hK, hst _ _ hI.2 U hU hW⟩⟩ rfl rfl hl.1 rfl (lv_room (Nat.le_of_ble_eq_true rfl)) d_Di_entryOf_53 ⟨Nat.le_of_ble_eq_true rfl, Nat.le_of_ble_eq_true rfl⟩) hI.2 (fun q _ h => ga_sub hAC hA0 hI.2 q h) (ga_sub hAC hA0 hI.2) (fun v t H1 locs1 ht hWt hpost _ _ hS => ?_) (fun x t H1 locs1 ht hWt hpost _ _ hS => ?_)
  · rcases hpost.1 _ rfl with ⟨z109, hv, c110, c110_0, c110_1, c110_2, c110_3, hI1⟩
    cases hv
    have hI : sI (dC, dI) vcl cI cJ (gsC a he dp co li op wd tl t_lc93 fo sf lf nf) A s.heap H1 locs1 := ⟨by rw [← ht]; exact hI1, hS⟩
    clear hpost hI1 hS ht hWt
    revert hI; generalize H1 = H; generalize locs1 = locs; intro hI
    refine sn_iadd hx hb d_Di_entryOf_56 (by omega) (by omega) (fun z111 hz111 => ?_)
    refine sn_iadd hx hb d_Di_entryOf_57 (by omega) (by omega) (fun z112 hz112 => ?_)
    refine lv_istore (lv' := [(5, .int z112), (4, .int z104), (3, .int z98), (0, .ref (a 18)), (1, .ref (a 8)), (2, .int x2)]) hx hb d_Di_entryOf_58 hl (by decide) rfl (fun ls hl => ?_)
    refine lv_aload_n hx hb d_Di_entryOf_60 rfl (lv_at hl 3 rfl) ?_
    refine sv_getr (C := "StoryMachine$Dictionary") (T := T_Di) (N := 6) hx hb hts in_Di hown hK hI 18 kC_18 rfl 0 (by decide) (hts _ mw_191) rfl d_Di_entryOf_61 ?_
    refine lv_iload hx hb d_Di_entryOf_64 (lv_at hl 0 rfl) ?_
    refine tz_call (A1 := ga (adC a) H.size) (tz_runV (C := "StoryMachine$Memory") (As := [.int z112]) (rest := []) ⟨hx, hb, hml, hown, hts⟩ (c_Me_byteAt l hfl dC dI cI cJ a H.size he dp co li op wd tl t_lc93 fo sf lf nf z112 c110) (tx_cb (n := 1) hts rfl rfl ⟨Nat.le_of_ble_eq_true rfl, Nat.le_of_ble_eq_true rfl⟩ (tx_code.of (hts _ mw_511)) (hts _ mw_2) (by decide +kernel) (hts _ mw_906)) (hts _ mw_509) (hts _ mw_510) ⟨tz_blind, sv_recv (q0 := 1) hts in_Me hK hI kC_1 rfl, fun U hU hW => ⟨rfl, by rw [hU], by rw [hU]; exact hI.1, va_K.moved hW.alike hK, hst _ _ hI.2 U hU hW⟩⟩ rfl rfl hl.1 rfl (lv_room (Nat.le_of_ble_eq_true rfl)) d_Di_entryOf_66 ⟨Nat.le_of_ble_eq_true rfl, Nat.le_of_ble_eq_true rfl⟩) hI.2 (fun q _ h => ga_sub hAC hA0 hI.2 q h) (ga_sub hAC hA0 hI.2) (fun v t H1 locs1 ht hWt hpost _ _ hS => ?_) (fun x t H1 locs1 ht hWt hpost _ _ hS => ?_)
    · rcases hpost.1 _ rfl with ⟨z113, hv, c114, c114_0, c114_1, c114_2, c114_3, hI1⟩
      cases hv
      have hI : sI (dC, dI) vcl cI cJ (gsC a he dp co li op wd tl t_lc93 fo sf lf nf) A s.heap H1 locs1 := ⟨by rw [← ht]; exact hI1, hS⟩
      clear hpost hI1 hS ht hWt
      revert hI; generalize H1 = H; generalize locs1 = locs; intro hI
      refine lv_istore (lv' := [(6, .int z113), (5, .int z112), (4, .int z104), (3, .int z98), (0, .ref (a 18)), (1, .ref (a 8)), (2, .int x2)]) hx hb d_Di_entryOf_69 hl (by decide) rfl (fun ls hl => ?_)
      refine lv_iload hx hb d_Di_entryOf_71 (lv_at hl 0 rfl) ?_
      refine sn_iconst hx hb d_Di_entryOf_73 (by decide) (fun z115 hz115 => ?_)
      refine sn_icmp_ge (tgt := 85) hx hb d_Di_entryOf_74 (by decide) (fun b116 => ?_) (fun b116 => ?_)
      · refine lv_aload_n hx hb d_Di_entryOf_85 rfl (lv_at hl 4 rfl) ?_
        refine sv_getr (C := "StoryMachine$Dictionary") (T := T_Di) (N := 6) hx hb hts in_Di hown hK hI 18 kC_18 rfl 0 (by decide) (hts _ mw_191) rfl d_Di_entryOf_86 ?_
        refine lv_iload hx hb d_Di_entryOf_89 (lv_at hl 1 rfl) ?_
        refine sn_iconst hx hb d_Di_entryOf_91 (by decide) (fun z117 hz117 => ?_)
        refine sn_iadd hx hb d_Di_entryOf_92 (by omega) (by omega) (fun z118 hz118 => ?_)
        refine tz_call (A1 := ga (adC a) H.size) (tz_runV (C := "StoryMachine$Memory") (As := [.int z118]) (rest := []) ⟨hx, hb, hml, hown, hts⟩ (c_Me_wordAt l hfl dC dI cI cJ a H.size he dp co li op wd tl t_lc93 fo sf lf nf z118 c114) (tx_cb (n := 1) hts rfl rfl ⟨Nat.le_of_ble_eq_true rfl, Nat.le_of_ble_eq_true rfl⟩ (tx_code.of (hts _ mw_440)) (hts _ mw_2) (by decide +kernel) (hts _ mw_905)) (hts _ mw_438) (hts _ mw_439) ⟨tz_blind, sv_recv (q0 := 1) hts in_Me hK hI kC_1 rfl, fun U hU hW => ⟨rfl, by rw [hU], by rw [hU]; exact hI.1, va_K.moved hW.alike hK, hst _ _ hI.2 U hU hW⟩⟩ rfl rfl hl.1 rfl (lv_room (Nat.le_of_ble_eq_true rfl)) d_Di_entryOf_93 ⟨Nat.le_of_ble_eq_true rfl, Nat.le_of_ble_eq_true rfl⟩) hI.2 (fun q _ h => ga_sub hAC hA0 hI.2 q h) (ga_sub hAC hA0 hI.2) (fun v t H1 locs1 ht hWt hpost _ _ hS => ?_) (fun x t H1 locs1 ht hWt hpost _ _ hS => ?_)
        · rcases hpost.1 _ rfl with ⟨z119, hv, c120, c120_0, c120_1, c120_2, c120_3, hI1⟩
          cases hv
          have hI : sI (dC, dI) vcl cI cJ (gsC a he dp co li op wd tl t_lc93 fo sf lf nf) A s.heap H1 locs1 := ⟨by rw [← ht]; exact hI1, hS⟩
          clear hpost hI1 hS ht hWt
          revert hI; generalize H1 = H; generalize locs1 = locs; intro hI
          refine lv_istore (lv' := [(7, .int z119), (6, .int z113), (5, .int z112), (4, .int z104), (3, .int z98), (0, .ref (a 18)), (1, .ref (a 8)), (2, .int x2)]) hx hb d_Di_entryOf_96 hl (by decide) rfl (fun ls hl => ?_)
          refine lv_iload hx hb d_Di_entryOf_98 (lv_at hl 2 rfl) ?_
          refine sn_iconst hx hb d_Di_entryOf_100 (by decide) (fun z121 hz121 => ?_)
          refine sn_iadd hx hb d_Di_entryOf_101 (by omega) (by omega) (fun z122 hz122 => ?_)
          refine lv_istore (lv' := [(8, .int z122), (7, .int z119), (6, .int z113), (5, .int z112), (4, .int z104), (3, .int z98), (0, .ref (a 18)), (1, .ref (a 8)), (2, .int x2)]) hx hb d_Di_entryOf_102 hl (by decide) rfl (fun ls hl => ?_)
          refine sn_iconst hx hb d_Di_entryOf_104 (by decide) (fun z123 hz123 => ?_)
          refine lv_istore (lv' := [(9, .int z123), (8, .int z122), (7, .int z119), (6, .int z113), (5, .int z112), (4, .int z104), (3, .int z98), (0, .ref (a 18)), (1, .ref (a 8)), (2, .int x2)]) hx hb d_Di_entryOf_105 hl (by decide) rfl (fun ls hl => ?_)
          exact j107 65536 _ _ _ z98 z104 z112 z113 z119 z122 z123 t_lc93 hI c120 (by omega) (by omega) (by omega) (by omega) (by omega) (by omega) (by omega) (by omega) (by omega) (by omega) (by omega) (by omega) (by omega) (by omega) (lv_sub hl [7, 8, 9, 6, 5, 4, 3, 2, 1, 0] rfl) (by omega)
        · rcases hpost.2 _ rfl with ⟨hex, c124, hI1⟩
          have hI : sI (dC, dI) vcl cI cJ (gsC a he dp co li op wd tl t_lc93 fo sf lf nf) A s.heap H1 locs1 := ⟨by rw [← ht]; exact hI1, hS⟩
          refine tz_widen (k := 1) (n := 6) (Nat.le_of_ble_eq_true rfl) (Nat.le_of_ble_eq_true rfl) ?_
          subst hZ
          exact tz_leave (tx_noH B (hts _ mw_914) _) (fun t9 ht9 hW9 => ⟨⟨fun v9 hv9 => (by cases hv9), fun x9 hx9 => by cases hx9; exact (⟨t_lc93, ta_exm hex ht ht9 hWt hW9, c124, by rw [ht9]; exact hI.1⟩)⟩, hI.2.F ht9⟩) hI.2.2.2 hlocks
      · refine W.widen (k := 0) (n := 0) (Nat.le_of_ble_eq_true rfl) (Nat.le_of_ble_eq_true rfl) ?_
        subst hZ
        exact tz_thrown (tth_Di_IllegalArgumentException hx hb hfl hown hts (fun U hU hW => (hst _ _ hI.2 U hU hW).1) (by rw [hml]; exact hl.1) d_Di_entryOf_77 d_Di_entryOf_80 d_Di_entryOf_81 d_Di_entryOf_84 (tx_noH B (hts _ mw_914) _) (Nat.le_of_ble_eq_true rfl) (Nat.le_of_ble_eq_true rfl) (Nat.le_of_ble_eq_true rfl) (Nat.le_of_ble_eq_true rfl) (fun t ce hW hz hk hce hcl hvm => ⟨⟨⟨fun v9 hv9 => (by cases hv9), fun x9 hx9 => by cases hx9; exact (⟨t_lc93, ⟨ce, hce, hcl, hvm⟩, c114, sh_kept hI.1 hk⟩)⟩, ta_thrown hI.2 hz hk⟩, _, rfl⟩) hI.2.2.2 hlocks)
    · rcases hpost.2 _ rfl with ⟨hex, c125, hI1⟩
      have hI : sI (dC, dI) vcl cI cJ (gsC a he dp co li op wd tl t_lc93 fo sf lf nf) A s.heap H1 locs1 := ⟨by rw [← ht]; exact hI1, hS⟩
      refine tz_widen (k := 1) (n := 6) (Nat.le_of_ble_eq_true rfl) (Nat.le_of_ble_eq_true rfl) ?_
      subst hZ
      exact tz_leave (tx_noH B (hts _ mw_914) _) (fun t9 ht9 hW9 => ⟨⟨fun v9 hv9 => (by cases hv9), fun x9 hx9 => by cases hx9; exact (⟨t_lc93, ta_exm hex ht ht9 hWt hW9, c125, by rw [ht9]; exact hI.1⟩)⟩, hI.2.F ht9⟩) hI.2.2.2 hlocks
  · rcases hpost.2 _ rfl with ⟨hex, c126, hI1⟩
    have hI : sI (dC, dI) vcl cI cJ (gsC a he dp co li op wd tl t_lc93 fo sf lf nf) A s.heap H1 locs1 := ⟨by rw [← ht]; exact hI1, hS⟩
    refine tz_widen (k := 1) (n := 6) (Nat.le_of_ble_eq_true rfl) (Nat.le_of_ble_eq_true rfl) ?_
    subst hZ
    exact tz_leave (tx_noH B (hts _ mw_914) _) (fun t9 ht9 hW9 => ⟨⟨fun v9 hv9 => (by cases hv9), fun x9 hx9 => by cases hx9; exact (⟨t_lc93, ta_exm hex ht ht9 hWt hW9, c126, by rw [ht9]; exact hI.1⟩)⟩, hI.2.F ht9⟩) hI.2.2.2 hlocks
abbrev q_In_nextByte (dC : Nat → ClassId) (dI : Nat → Nat → Nat) (cI cJ : ClassId) (a : Nat → Nat) (he dp co li op wd tl lc fo : Int) (sf lf nf : Nat → Int32) : Outcome → State → Prop := fun o t => (∀ v, o = .returned v → ((∃ (z : Int32), v = some (.int z) ∧ okC he dp co li op wd tl lc fo sf lf nf ∧ (0 ≤ z.toInt) ∧ (z.toInt ≤ 255) ∧ sh_I (dC, dI) vcl cI cJ (gsC a he dp co li op wd tl lc fo sf lf nf) t.heap))) ∧ (∀ x, o = .threw x → ((ta_Ex "java/lang/IllegalArgumentException" x t ∧ okC he dp co li op wd tl lc fo sf lf nf ∧ sh_I (dC, dI) vcl cI cJ (gsC a he dp co li op wd tl lc fo sf lf nf) t.heap)))
def rm_In_nextByte : Room := { frames := 8, cells := 1, slots := 6, locals := 151 }
set_option maxHeartbeats 4000000 in
set_option maxRecDepth 100000 in
theorem c_In_nextByte (l : Launch) (hfl : l.flags = pinnedFlags ++ [noTraceFlag]) (dC : Nat → ClassId) (dI : Nat → Nat → Nat) (cI cJ : ClassId) (a : Nat → Nat) (sz : Nat) (he dp co li op wd tl lc fo : Int) (sf lf nf : Nat → Int32) (hok : okC he dp co li op wd tl lc fo sf lf nf) : tz_Met l ⟨"StoryMachine$Instruction", "nextByte", "()I"⟩ tw_tbl rm_In_nextByte (tzP (dC, dI) vcl cI cJ (gsC a he dp co li op wd tl lc fo sf lf nf) a (adC a) [.ref (a 19)] sz) (tq_Q (q_In_nextByte dC dI cI cJ a he dp co li op wd tl lc fo sf lf nf) (ga (adC a) sz)) 0 0 1 6 (ga (adC a) sz) := by
  refine tz_ofW (cc := prog_5_method_11_code) (maxL := 2) (ret := (some .int)) (by decide) (tx_isM mw_507) ?_
  intro p e s m args below meth c s₁ B hml hv
  obtain ⟨rfl, hsz, hI0, hK, hst0⟩ := hv
  have hx := B.exec
  have hb := B.bytes
  have hr := B.returns
  have hts := atoms_spec (ws := tw_tbl) B.pre
  have hown : s.vm.findClass "StoryMachine$Instruction" = some m.cls := findClass_of_methodNamed B.named
  have hlocks := B.notSynchronized
  subst hsz
  have hst := fun (H : Heap) (locs : List Loc) (hS : va_S (ga (adC a) s.heap.size) s.heap H locs) (U : State) (hU : U.heap = H) (hW : s.WarmedH U.vm) => zS_all adC_map hI0 hst0 hS hU hW
  have hAC : ∀ q ∈ adC a, ga (adC a) s.heap.size q := fun q h => Or.inl h
  have hA0 : ∀ q, s.heap.size ≤ q → ga (adC a) s.heap.size q := fun q h => Or.inr h
  have hI : sI (dC, dI) vcl cI cJ (gsC a he dp co li op wd tl lc fo sf lf nf) (ga (adC a) s.heap.size) s.heap s.heap [] := ⟨hI0, va_S.rf⟩
  clear hI0 hst0
  have hl := lv_entry ([.ref (a 19)]) (n := 2) (Nat.le_of_ble_eq_true rfl)
  rw [lg_entry_eq]
  generalize (lg_sl ([.ref (a 19)]) ++ List.replicate (2 - (lg_sl ([.ref (a 19)])).length) Slot.unset).toArray = ls at hl ⊢
  have hl : lv_has ls 2 [(0, .ref (a 19))] := hl
  generalize hZ : tz_MQ below (tq_Q (q_In_nextByte dC dI cI cJ a he dp co li op wd tl lc fo sf lf nf) (ga (adC a) s.heap.size)) ([.ref (a 19)] : List Value).toArray s 0 0 1 6 (ga (adC a) s.heap.size) = Z
  obtain ⟨A, hAe⟩ : ∃ A, A = ga (adC a) s.heap.size := ⟨_, rfl⟩
  rw [← hAe] at hst hAC hA0 hI hZ
  refine sv_start hI (fun H locs hI => ?_)
  obtain ⟨⟨o1, o2⟩, ⟨o3, o4⟩, ⟨o5, o6⟩, ⟨o7, o8⟩, ⟨o9, o10⟩, ⟨o11, o12⟩, ⟨o13, o14⟩, ⟨o15, o16⟩, ⟨o17, o18⟩, o19, -, -⟩ := id hok
  refine lv_aload_n hx hb d_In_nextByte_0 rfl (lv_at hl 0 rfl) ?_
  refine sv_getr (C := "StoryMachine$Instruction") (T := T_In) (N := 11) hx hb hts in_In hown hK hI 19 kC_19 rfl 0 (by decide) (hts _ mw_219) rfl d_In_nextByte_1 ?_
  refine lv_aload_n hx hb d_In_nextByte_4 rfl (lv_at hl 0 rfl) ?_
  refine sv_get (C := "StoryMachine$Instruction") (T := T_In) (N := 11) hx hb hts in_In hown hK hI 19 kC_19 rfl 6 (by decide) (hts _ mw_230) rfl d_In_nextByte_5 (fun z20 hz20a hz20b => ?_)
  refine tz_call (A1 := ga (adC a) H.size) (tz_runV (C := "StoryMachine$Memory") (As := [.int z20]) (rest := []) ⟨hx, hb, hml, hown, hts⟩ (c_Me_byteAt l hfl dC dI cI cJ a H.size he dp co li op wd tl lc fo sf lf nf z20 hok) (tx_cb (n := 1) hts rfl rfl ⟨Nat.le_of_ble_eq_true rfl, Nat.le_of_ble_eq_true rfl⟩ (tx_code.of (hts _ mw_511)) (hts _ mw_2) (by decide +kernel) (hts _ mw_508)) (hts _ mw_509) (hts _ mw_510) ⟨tz_blind, sv_recv (q0 := 1) hts in_Me hK hI kC_1 rfl, fun U hU hW => ⟨rfl, by rw [hU], by rw [hU]; exact hI.1, va_K.moved hW.alike hK, hst _ _ hI.2 U hU hW⟩⟩ rfl rfl hl.1 rfl (lv_room (Nat.le_of_ble_eq_true rfl)) d_In_nextByte_8 ⟨Nat.le_of_ble_eq_true rfl, Nat.le_of_ble_eq_true rfl⟩) hI.2 (fun q _ h => ga_sub hAC hA0 hI.2 q h) (ga_sub hAC hA0 hI.2) (fun v t H1 locs1 ht hWt hpost _ _ hS => ?_) (fun x t H1 locs1 ht hWt hpost _ _ hS => ?_)
  · rcases hpost.1 _ rfl with ⟨z21, hv, c22, c22_0, c22_1, c22_2, c22_3, hI1⟩
    cases hv
    have hI : sI (dC, dI) vcl cI cJ (gsC a he dp co li op wd tl lc fo sf lf nf) A s.heap H1 locs1 := ⟨by rw [← ht]; exact hI1, hS⟩
    clear hpost hI1 hS ht hWt
    revert hI; generalize H1 = H; generalize locs1 = locs; intro hI
    refine lv_istore_n (lv' := [(1, .int z21), (0, .ref (a 19))]) hx hb d_In_nextByte_11 rfl hl (by decide) rfl (fun ls hl => ?_)
    refine lv_aload_n hx hb d_In_nextByte_12 rfl (lv_at hl 1 rfl) ?_
    refine lv_dup hx hb d_In_nextByte_13 rfl ?_
    refine sv_get (C := "StoryMachine$Instruction") (T := T_In) (N := 11) hx hb hts in_In hown hK hI 19 kC_19 rfl 6 (by decide) (hts _ mw_230) rfl d_In_nextByte_14 (fun z23 hz23a hz23b => ?_)
    refine sn_iconst hx hb d_In_nextByte_17 (by decide) (fun z24 hz24 => ?_)
    refine sn_iaddT hx hb d_In_nextByte_18 (fun z25 hz25a hz25b => ?_)
    refine sv_put (C := "StoryMachine$Instruction") (T := T_In) (N := 11) (ty := .int) hx hb hts in_In t_In tk_In nm_In hown hK (sh_in adC_map hAC) hI 19 kC_19 rfl 6 (by decide) (hts _ mw_230) rfl (by decide +kernel) rfl rfl (Nat.le_of_ble_eq_true rfl) (by omega) (by omega) pC_19_6 d_In_nextByte_19 (fun H locs hI => ?_)
    refine lv_iload_n hx hb d_In_nextByte_22 rfl (lv_at hl 0 rfl) ?_
    subst hZ
    exact tz_ret (W.iret (v := z21) hx hb hr (fun t ht hW => ⟨⟨fun v9 hv9 => by cases hv9; exact (⟨z21, rfl, c22, by omega, by omega, by rw [ht]; exact hI.1⟩), fun x9 hx9 => (by cases hx9)⟩, hI.2.F ht⟩) hI.2.2.2 d_In_nextByte_23)
  · rcases hpost.2 _ rfl with ⟨hex, c26, hI1⟩
    have hI : sI (dC, dI) vcl cI cJ (gsC a he dp co li op wd tl lc fo sf lf nf) A s.heap H1 locs1 := ⟨by rw [← ht]; exact hI1, hS⟩
    refine tz_widen (k := 1) (n := 6) (Nat.le_of_ble_eq_true rfl) (Nat.le_of_ble_eq_true rfl) ?_
    subst hZ
    exact tz_leave (tx_noH B (hts _ mw_507) _) (fun t9 ht9 hW9 => ⟨⟨fun v9 hv9 => (by cases hv9), fun x9 hx9 => by cases hx9; exact (⟨ta_exm hex ht ht9 hWt hW9, c26, by rw [ht9]; exact hI.1⟩)⟩, hI.2.F ht9⟩) hI.2.2.2 hlocks
