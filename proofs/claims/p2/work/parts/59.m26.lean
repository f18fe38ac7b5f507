abbrev q_SM_poke (dC : Nat → ClassId) (dI : Nat → Nat → Nat) (cI cJ : ClassId) (a : Nat → Nat) (he dp co li op wd tl lc fo : Int) (sf lf nf : Nat → Int32) (x1 : Int32) (y2 : Int64) (x4 : Int32) : Outcome → State → Prop := fun o t => (∀ v, o = .returned v → ((v = none ∧ okC he dp co li op wd tl lc fo sf lf nf ∧ (0 ≤ x1.toInt) ∧ (x1.toInt ≤ 511) ∧ (1 ≤ x4.toInt) ∧ (x4.toInt ≤ 8) ∧ (1 ≤ x4.toInt) ∧ (x4.toInt ≤ 8) ∧ (0 ≤ x1.toInt) ∧ (x1.toInt + x4.toInt ≤ 512) ∧ sh_I (dC, dI) vcl cI cJ (gsC a he dp co li op wd tl lc fo sf lf nf) t.heap))) ∧ (∀ x, o = .threw x → ((ta_Ex "java/lang/IllegalArgumentException" x t ∧ okC he dp co li op wd tl lc fo sf lf nf ∧ (x4.toInt < 1 ∨ 8 < x4.toInt ∨ x1.toInt < 0 ∨ 512 < x1.toInt + x4.toInt) ∧ sh_I (dC, dI) vcl cI cJ (gsC a he dp co li op wd tl lc fo sf lf nf) t.heap)))
def rm_SM_poke : Room := { frames := 7, cells := 1, slots := 6, locals := 130 }
set_option maxHeartbeats 4000000 in
set_option maxRecDepth 100000 in
theorem c_SM_poke (l : Launch) (hfl : l.flags = pinnedFlags ++ [noTraceFlag]) (dC : Nat → ClassId) (dI : Nat → Nat → Nat) (cI cJ : ClassId) (a : Nat → Nat) (sz : Nat) (he dp co li op wd tl lc fo : Int) (sf lf nf : Nat → Int32) (x1 : Int32) (y2 : Int64) (x4 : Int32) (hok : okC he dp co li op wd tl lc fo sf lf nf) : tz_Met l ⟨"StoryMachine", "poke", "(IJI)V"⟩ tw_tbl rm_SM_poke (tzP (dC, dI) vcl cI cJ (gsC a he dp co li op wd tl lc fo sf lf nf) a (adC a) [.ref (a 0), .int x1, .long y2, .int x4] sz) (tq_Q (q_SM_poke dC dI cI cJ a he dp co li op wd tl lc fo sf lf nf x1 y2 x4) (ga (adC a) sz)) 0 0 1 6 (ga (adC a) sz) := by
  refine tz_ofW (cc := prog_1_method_2_code) (maxL := 6) (ret := none) (by decide) (tx_isM mw_353) ?_
  intro p e s m args below meth c s₁ B hml hv
  obtain ⟨rfl, hsz, hI0, hK, hst0⟩ := hv
  have hx := B.exec
  have hb := B.bytes
  have hr := B.returns
  have hts := atoms_spec (ws := tw_tbl) B.pre
  have hown : s.vm.findClass "StoryMachine" = some m.cls := findClass_of_methodNamed B.named
  have hlocks := B.notSynchronized
  subst hsz
  have hst := fun (H : Heap) (locs : List Loc) (hS : va_S (ga (adC a) s.heap.size) s.heap H locs) (U : State) (hU : U.heap = H) (hW : s.WarmedH U.vm) => zS_all adC_map hI0 hst0 hS hU hW
  have hAC : ∀ q ∈ adC a, ga (adC a) s.heap.size q := fun q h => Or.inl h
  have hA0 : ∀ q, s.heap.size ≤ q → ga (adC a) s.heap.size q := fun q h => Or.inr h
  have hI : sI (dC, dI) vcl cI cJ (gsC a he dp co li op wd tl lc fo sf lf nf) (ga (adC a) s.heap.size) s.heap s.heap [] := ⟨hI0, va_S.rf⟩
  clear hI0 hst0
  have hl := lv_entry ([.ref (a 0), .int x1, .long y2, .int x4]) (n := 6) (Nat.le_of_ble_eq_true rfl)
  rw [lg_entry_eq]
  generalize (lg_sl ([.ref (a 0), .int x1, .long y2, .int x4]) ++ List.replicate (6 - (lg_sl ([.ref (a 0), .int x1, .long y2, .int x4])).length) Slot.unset).toArray = ls at hl ⊢
  have hl : lv_has ls 6 [(0, .ref (a 0)), (1, .int x1), (2, .long y2), (4, .int x4)] := hl
  generalize hZ : tz_MQ below (tq_Q (q_SM_poke dC dI cI cJ a he dp co li op wd tl lc fo sf lf nf x1 y2 x4) (ga (adC a) s.heap.size)) ([.ref (a 0), .int x1, .long y2, .int x4] : List Value).toArray s 0 0 1 6 (ga (adC a) s.heap.size) = Z
  obtain ⟨A, hAe⟩ : ∃ A, A = ga (adC a) s.heap.size := ⟨_, rfl⟩
  rw [← hAe] at hst hAC hA0 hI hZ
  refine sv_start hI (fun H locs hI => ?_)
  obtain ⟨⟨o1, o2⟩, ⟨o3, o4⟩, ⟨o5, o6⟩, ⟨o7, o8⟩, ⟨o9, o10⟩, ⟨o11, o12⟩, ⟨o13, o14⟩, ⟨o15, o16⟩, ⟨o17, o18⟩, o19, -, -⟩ := id hok
  have gx1 := sn_rng x1
  have gx4 := sn_rng x4
  have j38 : ∀ (n : Nat) (H : Heap) (locs : List Loc) (ls : Array Slot) (v38_5 : Int32) (v38_2 : Int64), sI (dC, dI) vcl cI cJ (gsC a he dp co li op wd tl lc fo sf lf nf) A s.heap H locs → okC he dp co li op wd tl lc fo sf lf nf → 0 ≤ v38_5.toInt → v38_5.toInt ≤ 8 → 0 ≤ x1.toInt → x1.toInt ≤ 511 → 1 ≤ x4.toInt → x4.toInt ≤ 8 → x1.toInt + x4.toInt ≤ 512 → lv_has ls 6 [(0, .ref (a 0)), (1, .int x1), (2, .long v38_2), (4, .int x4), (5, .int v38_5)] → 8 - v38_5.toInt < (n : Int) → W p l e (headSpec tw_tbl rm_SM_poke).room s m ([.ref (a 0), .int x1, .long y2, .int x4] : List Value).toArray below meth c H locs 0 0 Z (F0 m 38 ls []) := by
    intro n
    induction n with
    | zero => intro H locs ls v38_5 v38_2 hI hok g38_0 g38_1 g38_2 g38_3 g38_4 g38_5 g38_6 hl hme; exfalso; obtain ⟨⟨o20, o21⟩, ⟨o22, o23⟩, ⟨o24, o25⟩, ⟨o26, o27⟩, ⟨o28, o29⟩, ⟨o30, o31⟩, ⟨o32, o33⟩, ⟨o34, o35⟩, ⟨o36, o37⟩, o38, -, -⟩ := id hok; omega
    | succ n ih =>
      intro H locs ls v38_5 v38_2 hI hok g38_0 g38_1 g38_2 g38_3 g38_4 g38_5 g38_6 hl hme
      obtain ⟨⟨o39, o40⟩, ⟨o41, o42⟩, ⟨o43, o44⟩, ⟨o45, o46⟩, ⟨o47, o48⟩, ⟨o49, o50⟩, ⟨o51, o52⟩, ⟨o53, o54⟩, ⟨o55, o56⟩, o57, -, -⟩ := id hok
      refine lv_iload hx hb d_SM_poke_38 (lv_at hl 4 rfl) ?_
      refine lv_iload hx hb d_SM_poke_40 (lv_at hl 3 rfl) ?_
      refine sn_icmp_ge (tgt := 71) hx hb d_SM_poke_42 (by decide) (fun b58 => ?_) (fun b58 => ?_)
      · subst hZ
        exact tz_ret (W.vret hx hb hr (fun t ht hW => ⟨⟨fun v9 hv9 => by cases hv9; exact (⟨rfl, hok, by omega, by omega, by omega, by omega, by omega, by omega, by omega, by omega, by rw [ht]; exact hI.1⟩), fun x9 hx9 => (by cases hx9)⟩, hI.2.F ht⟩) hI.2.2.2 d_SM_poke_71)
      · refine lv_aload_n hx hb d_SM_poke_45 rfl (lv_at hl 0 rfl) ?_
        refine sv_getr (C := "StoryMachine") (T := T_SM) (N := 5) hx hb hts in_SM hown hK hI 0 kC_0 rfl 0 (by decide) (hts _ mw_310) rfl d_SM_poke_46 ?_
        refine sv_getr (C := "StoryMachine$Memory") (T := T_Me) (N := 1) hx hb hts in_Me hown hK hI 1 kC_1 rfl 0 (by decide) (hts _ mw_43) rfl d_SM_poke_49 ?_
        refine lv_iload_n hx hb d_SM_poke_52 rfl (lv_at hl 1 rfl) ?_
        refine lv_iload hx hb d_SM_poke_53 (lv_at hl 4 rfl) ?_
        refine sn_iadd hx hb d_SM_poke_55 (by omega) (by omega) (fun z59 hz59 => ?_)
        refine lv_lload_n hx hb d_SM_poke_56 rfl (lv_at hl 2 rfl) ?_
        refine lv_iload hx hb d_SM_poke_57 (lv_at hl 3 rfl) ?_
        refine lv_iload hx hb d_SM_poke_59 (lv_at hl 4 rfl) ?_
        refine tz_call (A1 := ga (adC a) H.size) (tz_runS (As := [.long v38_2, .int x4, .int v38_5]) (rest := [.int z59, .ref (a 6)]) ⟨hx, hb, hml, hown, hts⟩ (c_SM_packed l hfl dC dI cI cJ a H.size he dp co li op wd tl lc fo sf lf nf v38_2 x4 v38_5 hok (by omega) (by omega) (by omega) (by omega)) (tx_cb (n := 3) hts rfl rfl ⟨Nat.le_of_ble_eq_true rfl, Nat.le_of_ble_eq_true rfl⟩ (tx_code.of (hts _ mw_421)) (hts _ mw_1) (by decide +kernel) (hts _ mw_419)) (hts _ mw_420) ⟨tz_blind, fun U hU hW => ⟨rfl, by rw [hU], by rw [hU]; exact hI.1, va_K.moved hW.alike hK, hst _ _ hI.2 U hU hW⟩⟩ rfl rfl hl.1 rfl (lv_room (Nat.le_of_ble_eq_true rfl)) d_SM_poke_61 ⟨Nat.le_of_ble_eq_true rfl, Nat.le_of_ble_eq_true rfl⟩) hI.2 (fun q _ h => ga_sub hAC hA0 hI.2 q h) (ga_sub hAC hA0 hI.2) (fun v t H1 locs1 ht hWt hpost _ _ hS => ?_) (fun x t H1 locs1 ht hWt hpost _ _ hS => (hpost.2 x rfl).elim)
        rcases hpost.1 _ rfl with ⟨z60, hv, c61, c61_0, c61_1, hI1⟩
        cases hv
        have hI : sI (dC, dI) vcl cI cJ (gsC a he dp co li op wd tl lc fo sf lf nf) A s.heap H1 locs1 := ⟨by rw [← ht]; exact hI1, hS⟩
        clear hpost hI1 hS ht hWt
        revert hI; generalize H1 = H; generalize locs1 = locs; intro hI
        refine sv_iastr hx hb hK (sh_in adC_map hAC) hI 6 kC_6 (by omega) (by omega) (by omega) (by omega) pC_6 d_SM_poke_64 (fun H locs hI => ?_)
        refine sn_iinc (k := 4) hx hb d_SM_poke_65 hl rfl (by decide) (by decide) (by omega) (by omega) (fun ls z62 hz62 hl => ?_)
        have hl : lv_has ls 6 [(5, .int z62), (0, .ref (a 0)), (1, .int x1), (2, .long v38_2), (4, .int x4)] := hl
        refine lv_goto (tgt := 38) hx hb d_SM_poke_68 (by decide) ?_
        exact ih _ _ _ z62 v38_2 hI c61 (by omega) (by omega) (by omega) (by omega) (by omega) (by omega) (by omega) (lv_sub hl [1, 2, 3, 4, 0] rfl) (by omega)
  refine lv_iload hx hb d_SM_poke_0 (lv_at hl 3 rfl) ?_
  refine sn_iconst hx hb d_SM_poke_2 (by decide) (fun z63 hz63 => ?_)
  refine sn_icmp_lt (tgt := 27) hx hb d_SM_poke_3 (by decide) (fun b64 => ?_) (fun b64 => ?_)
  · refine W.widen (k := 0) (n := 0) (Nat.le_of_ble_eq_true rfl) (Nat.le_of_ble_eq_true rfl) ?_
    subst hZ
    exact tz_thrown (tth_SM_IllegalArgumentException hx hb hfl hown hts (fun U hU hW => (hst _ _ hI.2 U hU hW).1) (by rw [hml]; exact hl.1) d_SM_poke_27 d_SM_poke_30 d_SM_poke_31 d_SM_poke_34 (tx_noH B (hts _ mw_353) _) (Nat.le_of_ble_eq_true rfl) (Nat.le_of_ble_eq_true rfl) (Nat.le_of_ble_eq_true rfl) (Nat.le_of_ble_eq_true rfl) (fun t ce hW hz hk hce hcl hvm => ⟨⟨⟨fun v9 hv9 => (by cases hv9), fun x9 hx9 => by cases hx9; exact (⟨⟨ce, hce, hcl, hvm⟩, hok, by omega, sh_kept hI.1 hk⟩)⟩, ta_thrown hI.2 hz hk⟩, _, rfl⟩) hI.2.2.2 hlocks)
  · refine lv_iload hx hb d_SM_poke_6 (lv_at hl 3 rfl) ?_
    refine sn_bipush hx hb d_SM_poke_8 (by decide) (fun z65 hz65 => ?_)
    refine sn_icmp_gt (tgt := 27) hx hb d_SM_poke_10 (by decide) (fun b66 => ?_) (fun b66 => ?_)
    · refine W.widen (k := 0) (n := 0) (Nat.le_of_ble_eq_true rfl) (Nat.le_of_ble_eq_true rfl) ?_
      subst hZ
      exact tz_thrown (tth_SM_IllegalArgumentException hx hb hfl hown hts (fun U hU hW => (hst _ _ hI.2 U hU hW).1) (by rw [hml]; exact hl.1) d_SM_poke_27 d_SM_poke_30 d_SM_poke_31 d_SM_poke_34 (tx_noH B (hts _ mw_353) _) (Nat.le_of_ble_eq_true rfl) (Nat.le_of_ble_eq_true rfl) (Nat.le_of_ble_eq_true rfl) (Nat.le_of_ble_eq_true rfl) (fun t ce hW hz hk hce hcl hvm => ⟨⟨⟨fun v9 hv9 => (by cases hv9), fun x9 hx9 => by cases hx9; exact (⟨⟨ce, hce, hcl, hvm⟩, hok, by omega, sh_kept hI.1 hk⟩)⟩, ta_thrown hI.2 hz hk⟩, _, rfl⟩) hI.2.2.2 hlocks)
    · refine lv_iload_n hx hb d_SM_poke_13 rfl (lv_at hl 1 rfl) ?_
      refine sn_if_lt (tgt := 27) hx hb d_SM_poke_14 (by decide) (fun b67 => ?_) (fun b67 => ?_)
      · refine W.widen (k := 0) (n := 0) (Nat.le_of_ble_eq_true rfl) (Nat.le_of_ble_eq_true rfl) ?_
        subst hZ
        exact tz_thrown (tth_SM_IllegalArgumentException hx hb hfl hown hts (fun U hU hW => (hst _ _ hI.2 U hU hW).1) (by rw [hml]; exact hl.1) d_SM_poke_27 d_SM_poke_30 d_SM_poke_31 d_SM_poke_34 (tx_noH B (hts _ mw_353) _) (Nat.le_of_ble_eq_true rfl) (Nat.le_of_ble_eq_true rfl) (Nat.le_of_ble_eq_true rfl) (Nat.le_of_ble_eq_true rfl) (fun t ce hW hz hk hce hcl hvm => ⟨⟨⟨fun v9 hv9 => (by cases hv9), fun x9 hx9 => by cases hx9; exact (⟨⟨ce, hce, hcl, hvm⟩, hok, by omega, sh_kept hI.1 hk⟩)⟩, ta_thrown hI.2 hz hk⟩, _, rfl⟩) hI.2.2.2 hlocks)
      · refine lv_iload_n hx hb d_SM_poke_17 rfl (lv_at hl 1 rfl) ?_
        refine sn_sipush hx hb d_SM_poke_18 (by decide) (fun z68 hz68 => ?_)
        refine lv_iload hx hb d_SM_poke_21 (lv_at hl 3 rfl) ?_
        refine sn_isub hx hb d_SM_poke_23 (by omega) (by omega) (fun z69 hz69 => ?_)
        refine sn_icmp_le (tgt := 35) hx hb d_SM_poke_24 (by decide) (fun b70 => ?_) (fun b70 => ?_)
        · refine sn_iconst hx hb d_SM_poke_35 (by decide) (fun z71 hz71 => ?_)
          refine lv_istore (lv' := [(5, .int z71), (0, .ref (a 0)), (1, .int x1), (2, .long y2), (4, .int x4)]) hx hb d_SM_poke_36 hl (by decide) rfl (fun ls hl => ?_)
          exact j38 9 _ _ _ z71 y2 hI hok (by omega) (by omega) (by omega) (by omega) (by omega) (by omega) (by omega) (lv_sub hl [1, 2, 3, 4, 0] rfl) (by omega)
        · refine W.widen (k := 0) (n := 0) (Nat.le_of_ble_eq_true rfl) (Nat.le_of_ble_eq_true rfl) ?_
          subst hZ
          exact tz_thrown (tth_SM_IllegalArgumentException hx hb hfl hown hts (fun U hU hW => (hst _ _ hI.2 U hU hW).1) (by rw [hml]; exact hl.1) d_SM_poke_27 d_SM_poke_30 d_SM_poke_31 d_SM_poke_34 (tx_noH B (hts _ mw_353) _) (Nat.le_of_ble_eq_true rfl) (Nat.le_of_ble_eq_true rfl) (Nat.le_of_ble_eq_true rfl) (Nat.le_of_ble_eq_true rfl) (fun t ce hW hz hk hce hcl hvm => ⟨⟨⟨fun v9 hv9 => (by cases hv9), fun x9 hx9 => by cases hx9; exact (⟨⟨ce, hce, hcl, hvm⟩, hok, by omega, sh_kept hI.1 hk⟩)⟩, ta_thrown hI.2 hz hk⟩, _, rfl⟩) hI.2.2.2 hlocks)
abbrev q_SM_peek (dC : Nat → ClassId) (dI : Nat → Nat → Nat) (cI cJ : ClassId) (a : Nat → Nat) (he dp co li op wd tl lc fo : Int) (sf lf nf : Nat → Int32) (x1 : Int32) : Outcome → State → Prop := fun o t => (∀ v, o = .returned v → ((∃ (z : Int32), v = some (.int z) ∧ okC he dp co li op wd tl lc fo sf lf nf ∧ (0 ≤ z.toInt) ∧ (z.toInt ≤ 255) ∧ (0 ≤ x1.toInt) ∧ (x1.toInt ≤ 511) ∧ sh_I (dC, dI) vcl cI cJ (gsC a he dp co li op wd tl lc fo sf lf nf) t.heap))) ∧ (∀ x, o = .threw x → ((ta_Ex "java/lang/IllegalArgumentException" x t ∧ okC he dp co li op wd tl lc fo sf lf nf ∧ sh_I (dC, dI) vcl cI cJ (gsC a he dp co li op wd tl lc fo sf lf nf) t.heap)))
def rm_SM_peek : Room := { frames := 7, cells := 1, slots := 6, locals := 130 }
set_option maxHeartbeats 4000000 in
set_option maxRecDepth 100000 in
theorem c_SM_peek (l : Launch) (hfl : l.flags = pinnedFlags ++ [noTraceFlag]) (dC : Nat → ClassId) (dI : Nat → Nat → Nat) (cI cJ : ClassId) (a : Nat → Nat) (sz : Nat) (he dp co li op wd tl lc fo : Int) (sf lf nf : Nat → Int32) (x1 : Int32) (hok : okC he dp co li op wd tl lc fo sf lf nf) : tz_Met l ⟨"StoryMachine", "peek", "(I)I"⟩ tw_tbl rm_SM_peek (tzP (dC, dI) vcl cI cJ (gsC a he dp co li op wd tl lc fo sf lf nf) a (adC a) [.ref (a 0), .int x1] sz) (tq_Q (q_SM_peek dC dI cI cJ a he dp co li op wd tl lc fo sf lf nf x1) (ga (adC a) sz)) 0 0 1 6 (ga (adC a) sz) := by
  refine tz_ofW (cc := prog_1_method_3_code) (maxL := 2) (ret := (some .int)) (by decide) (tx_isM mw_428) ?_
  intro p e s m args below meth c s₁ B hml hv
  obtain ⟨rfl, hsz, hI0, hK, hst0⟩ := hv
  have hx := B.exec
  have hb := B.bytes
  have hr := B.returns
  have hts := atoms_spec (ws := tw_tbl) B.pre
  have hown : s.vm.findClass "StoryMachine" = some m.cls := findClass_of_methodNamed B.named
  have hlocks := B.notSynchronized
  subst hsz
  have hst := fun (H : Heap) (locs : List Loc) (hS : va_S (ga (adC a) s.heap.size) s.heap H locs) (U : State) (hU : U.heap = H) (hW : s.WarmedH U.vm) => zS_all adC_map hI0 hst0 hS hU hW
  have hAC : ∀ q ∈ adC a, ga (adC a) s.heap.size q := fun q h => Or.inl h
  have hA0 : ∀ q, s.heap.size ≤ q → ga (adC a) s.heap.size q := fun q h => Or.inr h
  have hI : sI (dC, dI) vcl cI cJ (gsC a he dp co li op wd tl lc fo sf lf nf) (ga (adC a) s.heap.size) s.heap s.heap [] := ⟨hI0, va_S.rf⟩
  clear hI0 hst0
  have hl := lv_entry ([.ref (a 0), .int x1]) (n := 2) (Nat.le_of_ble_eq_true rfl)
  rw [lg_entry_eq]
  generalize (lg_sl ([.ref (a 0), .int x1]) ++ List.replicate (2 - (lg_sl ([.ref (a 0), .int x1])).length) Slot.unset).toArray = ls at hl ⊢
  have hl : lv_has ls 2 [(0, .ref (a 0)), (1, .int x1)] := hl
  generalize hZ : tz_MQ below (tq_Q (q_SM_peek dC dI cI cJ a he dp co li op wd tl lc fo sf lf nf x1) (ga (adC a) s.heap.size)) ([.ref (a 0), .int x1] : List Value).toArray s 0 0 1 6 (ga (adC a) s.heap.size) = Z
  obtain ⟨A, hAe⟩ : ∃ A, A = ga (adC a) s.heap.size := ⟨_, rfl⟩
  rw [← hAe] at hst hAC hA0 hI hZ
  refine sv_start hI (fun H locs hI => ?_)
  obtain ⟨⟨o1, o2⟩, ⟨o3, o4⟩, ⟨o5, o6⟩, ⟨o7, o8⟩, ⟨o9, o10⟩, ⟨o11, o12⟩, ⟨o13, o14⟩, ⟨o15, o16⟩, ⟨o17, o18⟩, o19, -, -⟩ := id hok
  have gx1 := sn_rng x1
  have j11 : ∀ (H : Heap) (locs : List Loc) (ls : Array Slot), sI (dC, dI) vcl cI cJ (gsC a he dp co li op wd tl lc fo sf lf nf) A s.heap H locs → okC he dp co li op wd tl lc fo sf lf nf → lv_has ls 2 [(0, .ref (a 0)), (1, .int x1)] → W p l e (headSpec tw_tbl rm_SM_peek).room s m ([.ref (a 0), .int x1] : List Value).toArray below meth c H locs 0 0 Z (F0 m 11 ls []) := by
    intro H locs ls hI hok hl
    obtain ⟨⟨o20, o21⟩, ⟨o22, o23⟩, ⟨o24, o25⟩, ⟨o26, o27⟩, ⟨o28, o29⟩, ⟨o30, o31⟩, ⟨o32, o33⟩, ⟨o34, o35⟩, ⟨o36, o37⟩, o38, -, -⟩ := id hok
    refine W.widen (k := 0) (n := 0) (Nat.le_of_ble_eq_true rfl) (Nat.le_of_ble_eq_true rfl) ?_
    subst hZ
    exact tz_thrown (tth_SM_IllegalArgumentException hx hb hfl hown hts (fun U hU hW => (hst _ _ hI.2 U hU hW).1) (by rw [hml]; exact hl.1) d_SM_peek_11 d_SM_peek_14 d_SM_peek_15 d_SM_peek_18 (tx_noH B (hts _ mw_428) _) (Nat.le_of_ble_eq_true rfl) (Nat.le_of_ble_eq_true rfl) (Nat.le_of_ble_eq_true rfl) (Nat.le_of_ble_eq_true rfl) (fun t ce hW hz hk hce hcl hvm => ⟨⟨⟨fun v9 hv9 => (by cases hv9), fun x9 hx9 => by cases hx9; exact (⟨⟨ce, hce, hcl, hvm⟩, hok, sh_kept hI.1 hk⟩)⟩, ta_thrown hI.2 hz hk⟩, _, rfl⟩) hI.2.2.2 hlocks)
  refine lv_iload_n hx hb d_SM_peek_0 rfl (lv_at hl 1 rfl) ?_
  refine sn_if_lt (tgt := 11) hx hb d_SM_peek_1 (by decide) (fun b39 => ?_) (fun b39 => ?_)
  · exact j11 _ _ _  hI hok (lv_sub hl [0, 1] rfl)
  · refine lv_iload_n hx hb d_SM_peek_4 rfl (lv_at hl 1 rfl) ?_
    refine sn_sipush hx hb d_SM_peek_5 (by decide) (fun z40 hz40 => ?_)
    refine sn_icmp_lt (tgt := 19) hx hb d_SM_peek_8 (by decide) (fun b41 => ?_) (fun b41 => ?_)
    · refine lv_aload_n hx hb d_SM_peek_19 rfl (lv_at hl 0 rfl) ?_
      refine sv_getr (C := "StoryMachine") (T := T_SM) (N := 5) hx hb hts in_SM hown hK hI 0 kC_0 rfl 0 (by decide) (hts _ mw_310) rfl d_SM_peek_20 ?_
      refine sv_getr (C := "StoryMachine$Memory") (T := T_Me) (N := 1) hx hb hts in_Me hown hK hI 1 kC_1 rfl 0 (by decide) (hts _ mw_43) rfl d_SM_peek_23 ?_
      refine lv_iload_n hx hb d_SM_peek_26 rfl (lv_at hl 1 rfl) ?_
      refine sv_ialdr hx hb hK hI 6 kC_6 (by omega) (by omega) d_SM_peek_27 (fun z42 hz42a hz42b => ?_)
      subst hZ
      exact tz_ret (W.iret (v := z42) hx hb hr (fun t ht hW => ⟨⟨fun v9 hv9 => by cases hv9; exact (⟨z42, rfl, hok, by omega, by omega, by omega, by omega, by rw [ht]; exact hI.1⟩), fun x9 hx9 => (by cases hx9)⟩, hI.2.F ht⟩) hI.2.2.2 d_SM_peek_28)
    · exact j11 _ _ _  hI hok (lv_sub hl [0, 1] rfl)
abbrev q_SM_begin (dC : Nat → ClassId) (dI : Nat → Nat → Nat) (cI cJ : ClassId) (a : Nat → Nat) (he dp co li op wd tl lc fo : Int) (sf lf nf : Nat → Int32) : Outcome → State → Prop := fun o t => (∀ v, o = .returned v → ((∃ (he_ dp_ tl_ : Int) (nf_ : Nat → Int32), v = none ∧ okC he_ dp_ co li op wd tl_ lc fo sf lf nf_ ∧ (he_ ≤ 0) ∧ (dp_ ≤ 0) ∧ (tl_ ≤ 0) ∧ sh_I (dC, dI) vcl cI cJ (gsC a he_ dp_ co li op wd tl_ lc fo sf lf nf_) t.heap))) ∧ (∀ x, o = .threw x → ((ta_Ex "java/lang/IllegalStateException" x t ∧ okC he dp co li op wd tl lc fo sf lf nf ∧ sh_I (dC, dI) vcl cI cJ (gsC a he dp co li op wd tl lc fo sf lf nf) t.heap)))
def rm_SM_begin : Room := { frames := 7, cells := 1, slots := 6, locals := 130 }
set_option maxHeartbeats 4000000 in
set_option maxRecDepth 100000 in
theorem c_SM_begin (l : Launch) (hfl : l.flags = pinnedFlags ++ [noTraceFlag]) (dC : Nat → ClassId) (dI : Nat → Nat → Nat) (cI cJ : ClassId) (a : Nat → Nat) (sz : Nat) (he dp co li op wd tl lc fo : Int) (sf lf nf : Nat → Int32) (hok : okC he dp co li op wd tl lc fo sf lf nf) : tz_Met l ⟨"StoryMachine", "begin", "()V"⟩ tw_tbl rm_SM_begin (tzP (dC, dI) vcl cI cJ (gsC a he dp co li op wd tl lc fo sf lf nf) a (adC a) [.ref (a 0)] sz) (tq_Q (q_SM_begin dC dI cI cJ a he dp co li op wd tl lc fo sf lf nf) (ga (adC a) sz)) 0 0 1 6 (ga (adC a) sz) := by
  refine tz_ofW (cc := prog_1_method_4_code) (maxL := 2) (ret := none) (by decide) (tx_isM mw_436) ?_
  intro p e s m args below meth c s₁ B hml hv
  obtain ⟨rfl, hsz, hI0, hK, hst0⟩ := hv
  have hx := B.exec
  have hb := B.bytes
  have hr := B.returns
  have hts := atoms_spec (ws := tw_tbl) B.pre
  have hown : s.vm.findClass "StoryMachine" = some m.cls := findClass_of_methodNamed B.named
  have hlocks := B.notSynchronized
  subst hsz
  have hst := fun (H : Heap) (locs : List Loc) (hS : va_S (ga (adC a) s.heap.size) s.heap H locs) (U : State) (hU : U.heap = H) (hW : s.WarmedH U.vm) => zS_all adC_map hI0 hst0 hS hU hW
  have hAC : ∀ q ∈ adC a, ga (adC a) s.heap.size q := fun q h => Or.inl h
  have hA0 : ∀ q, s.heap.size ≤ q → ga (adC a) s.heap.size q := fun q h => Or.inr h
  have hI : sI (dC, dI) vcl cI cJ (gsC a he dp co li op wd tl lc fo sf lf nf) (ga (adC a) s.heap.size) s.heap s.heap [] := ⟨hI0, va_S.rf⟩
  clear hI0 hst0
  have hl := lv_entry ([.ref (a 0)]) (n := 2) (Nat.le_of_ble_eq_true rfl)
  rw [lg_entry_eq]
  generalize (lg_sl ([.ref (a 0)]) ++ List.replicate (2 - (lg_sl ([.ref (a 0)])).length) Slot.unset).toArray = ls at hl ⊢
  have hl : lv_has ls 2 [(0, .ref (a 0))] := hl
  generalize hZ : tz_MQ below (tq_Q (q_SM_begin dC dI cI cJ a he dp co li op wd tl lc fo sf lf nf) (ga (adC a) s.heap.size)) ([.ref (a 0)] : List Value).toArray s 0 0 1 6 (ga (adC a) s.heap.size) = Z
  obtain ⟨A, hAe⟩ : ∃ A, A = ga (adC a) s.heap.size := ⟨_, rfl⟩
  rw [← hAe] at hst hAC hA0 hI hZ
  refine sv_start hI (fun H locs hI => ?_)
  obtain ⟨⟨o1, o2⟩, ⟨o3, o4⟩, ⟨o5, o6⟩, ⟨o7, o8⟩, ⟨o9, o10⟩, ⟨o11, o12⟩, ⟨o13, o14⟩, ⟨o15, o16⟩, ⟨o17, o18⟩, o19, -, -⟩ := id hok
  refine lv_aload_n hx hb d_SM_begin_0 rfl (lv_at hl 0 rfl) ?_
  refine sv_getr (C := "StoryMachine") (T := T_SM) (N := 5) hx hb hts in_SM hown hK hI 0 kC_0 rfl 0 (by decide) (hts _ mw_310) rfl d_SM_begin_1 ?_
  refine sn_iconst hx hb d_SM_begin_4 (by decide) (fun z20 hz20 => ?_)
  refine tz_call (A1 := ga (adC a) H.size) (tz_runV (C := "StoryMachine$Memory") (As := [.int z20]) (rest := []) ⟨hx, hb, hml, hown, hts⟩ (c_Me_wordAts l hfl dC dI cI cJ a H.size he dp co li op wd tl lc fo sf lf nf z20 hok (by omega) (by omega)) (tx_cb (n := 1) hts rfl rfl ⟨Nat.le_of_ble_eq_true rfl, Nat.le_of_ble_eq_true rfl⟩ (tx_code.of (hts _ mw_440)) (hts _ mw_2) (by decide +kernel) (hts _ mw_437)) (hts _ mw_438) (hts _ mw_439) ⟨tz_blind, sv_recv (q0 := 1) hts in_Me hK hI kC_1 rfl, fun U hU hW => ⟨rfl, by rw [hU], by rw [hU]; exact hI.1, va_K.moved hW.alike hK, hst _ _ hI.2 U hU hW⟩⟩ rfl rfl hl.1 rfl (lv_room (Nat.le_of_ble_eq_true rfl)) d_SM_begin_5 ⟨Nat.le_of_ble_eq_true rfl, Nat.le_of_ble_eq_true rfl⟩) hI.2 (fun q _ h => ga_sub hAC hA0 hI.2 q h) (ga_sub hAC hA0 hI.2) (fun v t H1 locs1 ht hWt hpost _ _ hS => ?_) (fun x t H1 locs1 ht hWt hpost _ _ hS => (hpost.2 x rfl).elim)
  rcases hpost.1 _ rfl with ⟨z21, hv, c22, c22_0, c22_1, hI1⟩
  cases hv
  have hI : sI (dC, dI) vcl cI cJ (gsC a he dp co li op wd tl lc fo sf lf nf) A s.heap H1 locs1 := ⟨by rw [← ht]; exact hI1, hS⟩
  clear hpost hI1 hS ht hWt
  revert hI; generalize H1 = H; generalize locs1 = locs; intro hI
  refine lv_istore_n (lv' := [(1, .int z21), (0, .ref (a 0))]) hx hb d_SM_begin_8 rfl hl (by decide) rfl (fun ls hl => ?_)
  refine lv_iload_n hx hb d_SM_begin_9 rfl (lv_at hl 0 rfl) ?_
  refine sn_sipush hx hb d_SM_begin_10 (by decide) (fun z23 hz23 => ?_)
  refine sn_icmp_lt (tgt := 24) hx hb d_SM_begin_13 (by decide) (fun b24 => ?_) (fun b24 => ?_)
  · refine lv_aload_n hx hb d_SM_begin_24 rfl (lv_at hl 1 rfl) ?_
    refine sv_getr (C := "StoryMachine") (T := T_SM) (N := 5) hx hb hts in_SM hown hK hI 0 kC_0 rfl 4 (by decide) (hts _ mw_314) rfl d_SM_begin_25 ?_
    refine lv_iload_n hx hb d_SM_begin_28 rfl (lv_at hl 0 rfl) ?_
    refine tz_call (A1 := ga (adC a) H.size) (tz_runV (C := "StoryMachine$Engine") (As := [.int z21]) (rest := []) ⟨hx, hb, hml, hown, hts⟩ (c_En_startAt l hfl dC dI cI cJ a H.size he dp co li op wd tl lc fo sf lf nf z21 c22) (tx_cb (n := 1) hts rfl rfl ⟨Nat.le_of_ble_eq_true rfl, Nat.le_of_ble_eq_true rfl⟩ (tx_code.of (hts _ mw_461)) (hts _ mw_6) (by decide +kernel) (hts _ mw_458)) (hts _ mw_459) (hts _ mw_460) ⟨tz_blind, sv_recv (q0 := 5) hts in_En hK hI kC_5 rfl, fun U hU hW => ⟨rfl, by rw [hU], by rw [hU]; exact hI.1, va_K.moved hW.alike hK, hst _ _ hI.2 U hU hW⟩⟩ rfl rfl hl.1 rfl (lv_room (Nat.le_of_ble_eq_true rfl)) d_SM_begin_29 ⟨Nat.le_of_ble_eq_true rfl, Nat.le_of_ble_eq_true rfl⟩) hI.2 (fun q _ h => ga_sub hAC hA0 hI.2 q h) (ga_sub hAC hA0 hI.2) (fun v t H1 locs1 ht hWt hpost _ _ hS => ?_) (fun x t H1 locs1 ht hWt hpost _ _ hS => (hpost.2 x rfl).elim)
    rcases hpost.1 _ rfl with ⟨t_he25, t_dp26, t_tl27, f_nf28, hv, c29, c29_0, c29_1, c29_2, hI1⟩
    cases hv
    have hI : sI (dC, dI) vcl cI cJ (gsC a t_he25 t_dp26 co li op wd t_tl27 lc fo sf lf f_nf28) A s.heap H1 locs1 := ⟨by rw [← ht]; exact hI1, hS⟩
    obtain ⟨⟨o30, o31⟩, ⟨o32, o33⟩, -, -, -, -, ⟨o34, o35⟩, -, -, -, -, -⟩ := id c29
    clear hpost hI1 hS ht hWt
    revert hI; generalize H1 = H; generalize locs1 = locs; intro hI
    subst hZ
    exact tz_ret (W.vret hx hb hr (fun t ht hW => ⟨⟨fun v9 hv9 => by cases hv9; exact (⟨t_he25, t_dp26, t_tl27, f_nf28, rfl, c29, by omega, by omega, by omega, by rw [ht]; exact hI.1⟩), fun x9 hx9 => (by cases hx9)⟩, hI.2.F ht⟩) hI.2.2.2 d_SM_begin_32)
  · refine W.widen (k := 0) (n := 0) (Nat.le_of_ble_eq_true rfl) (Nat.le_of_ble_eq_true rfl) ?_
    subst hZ
    exact tz_thrown (tth_SM_IllegalStateException hx hb hfl hown hts (fun U hU hW => (hst _ _ hI.2 U hU hW).1) (by rw [hml]; exact hl.1) d_SM_begin_16 d_SM_begin_19 d_SM_begin_20 d_SM_begin_23 (tx_noH B (hts _ mw_436) _) (Nat.le_of_ble_eq_true rfl) (Nat.le_of_ble_eq_true rfl) (Nat.le_of_ble_eq_true rfl) (Nat.le_of_ble_eq_true rfl) (fun t ce hW hz hk hce hcl hvm => ⟨⟨⟨fun v9 hv9 => (by cases hv9), fun x9 hx9 => by cases hx9; exact (⟨⟨ce, hce, hcl, hvm⟩, c22, sh_kept hI.1 hk⟩)⟩, ta_thrown hI.2 hz hk⟩, _, rfl⟩) hI.2.2.2 hlocks)
abbrev q_SM_type (dC : Nat → ClassId) (dI : Nat → Nat → Nat) (cI cJ : ClassId) (a : Nat → Nat) (he dp co li op wd tl lc fo : Int) (sf lf nf : Nat → Int32) (y1 : Int64) (x3 : Int32) : Outcome → State → Prop := fun o t => (∀ v, o = .returned v → ((∃ (tl_ : Int), v = none ∧ okC he dp co li op wd tl_ lc fo sf lf nf ∧ (1 ≤ x3.toInt) ∧ (x3.toInt ≤ 8) ∧ sh_I (dC, dI) vcl cI cJ (gsC a he dp co li op wd tl_ lc fo sf lf nf) t.heap))) ∧ (∀ x, o = .threw x → ((ta_Ex "java/lang/IllegalArgumentException" x t ∧ okC he dp co li op wd tl lc fo sf lf nf ∧ sh_I (dC, dI) vcl cI cJ (gsC a he dp co li op wd tl lc fo sf lf nf) t.heap) ∨ (ta_Ex "java/lang/IllegalStateException" x t ∧ okC he dp co li op wd tl lc fo sf lf nf ∧ (1 ≤ x3.toInt) ∧ (x3.toInt ≤ 8) ∧ sh_I (dC, dI) vcl cI cJ (gsC a he dp co li op wd tl lc fo sf lf nf) t.heap)))
def rm_SM_type : Room := { frames := 7, cells := 1, slots := 6, locals := 130 }
set_option maxHeartbeats 4000000 in
set_option maxRecDepth 100000 in
theorem c_SM_type (l : Launch) (hfl : l.flags = pinnedFlags ++ [noTraceFlag]) (dC : Nat → ClassId) (dI : Nat → Nat → Nat) (cI cJ : ClassId) (a : Nat → Nat) (sz : Nat) (he dp co li op wd tl lc fo : Int) (sf lf nf : Nat → Int32) (y1 : Int64) (x3 : Int32) (hok : okC he dp co li op wd tl lc fo sf lf nf) : tz_Met l ⟨"StoryMachine", "type", "(JI)V"⟩ tw_tbl rm_SM_type (tzP (dC, dI) vcl cI cJ (gsC a he dp co li op wd tl lc fo sf lf nf) a (adC a) [.ref (a 0), .long y1, .int x3] sz) (tq_Q (q_SM_type dC dI cI cJ a he dp co li op wd tl lc fo sf lf nf y1 x3) (ga (adC a) sz)) 0 0 1 6 (ga (adC a) sz) := by
  refine tz_ofW (cc := prog_1_method_5_code) (maxL := 6) (ret := none) (by decide) (tx_isM mw_476) ?_
  intro p e s m args below meth c s₁ B hml hv
  obtain ⟨rfl, hsz, hI0, hK, hst0⟩ := hv
  have hx := B.exec
  have hb := B.bytes
  have hr := B.returns
  have hts := atoms_spec (ws := tw_tbl) B.pre
  have hown : s.vm.findClass "StoryMachine" = some m.cls := findClass_of_methodNamed B.named
  have hlocks := B.notSynchronized
  subst hsz
  have hst := fun (H : Heap) (locs : List Loc) (hS : va_S (ga (adC a) s.heap.size) s.heap H locs) (U : State) (hU : U.heap = H) (hW : s.WarmedH U.vm) => zS_all adC_map hI0 hst0 hS hU hW
  have hAC : ∀ q ∈ adC a, ga (adC a) s.heap.size q := fun q h => Or.inl h
  have hA0 : ∀ q, s.heap.size ≤ q → ga (adC a) s.heap.size q := fun q h => Or.inr h
  have hI : sI (dC, dI) vcl cI cJ (gsC a he dp co li op wd tl lc fo sf lf nf) (ga (adC a) s.heap.size) s.heap s.heap [] := ⟨hI0, va_S.rf⟩
  clear hI0 hst0
  have hl := lv_entry ([.ref (a 0), .long y1, .int x3]) (n := 6) (Nat.le_of_ble_eq_true rfl)
  rw [lg_entry_eq]
  generalize (lg_sl ([.ref (a 0), .long y1, .int x3]) ++ List.replicate (6 - (lg_sl ([.ref (a 0), .long y1, .int x3])).length) Slot.unset).toArray = ls at hl ⊢
  have hl : lv_has ls 6 [(0, .ref (a 0)), (1, .long y1), (3, .int x3)] := hl
  generalize hZ : tz_MQ below (tq_Q (q_SM_type dC dI cI cJ a he dp co li op wd tl lc fo sf lf nf y1 x3) (ga (adC a) s.heap.size)) ([.ref (a 0), .long y1, .int x3] : List Value).toArray s 0 0 1 6 (ga (adC a) s.heap.size) = Z
  obtain ⟨A, hAe⟩ : ∃ A, A = ga (adC a) s.heap.size := ⟨_, rfl⟩
  rw [← hAe] at hst hAC hA0 hI hZ
  refine sv_start hI (fun H locs hI => ?_)
  obtain ⟨⟨o1, o2⟩, ⟨o3, o4⟩, ⟨o5, o6⟩, ⟨o7, o8⟩, ⟨o9, o10⟩, ⟨o11, o12⟩, ⟨o13, o14⟩, ⟨o15, o16⟩, ⟨o17, o18⟩, o19, -, -⟩ := id hok
  have gx3 := sn_rng x3
  have j11 : ∀ (H : Heap) (locs : List Loc) (ls : Array Slot) (v11_1 : Int64), sI (dC, dI) vcl cI cJ (gsC a he dp co li op wd tl lc fo sf lf nf) A s.heap H locs → okC he dp co li op wd tl lc fo sf lf nf → lv_has ls 6 [(0, .ref (a 0)), (1, .long v11_1), (3, .int x3)] → W p l e (headSpec tw_tbl rm_SM_type).room s m ([.ref (a 0), .long y1, .int x3] : List Value).toArray below meth c H locs 0 0 Z (F0 m 11 ls []) := by
    intro H locs ls v11_1 hI hok hl
    obtain ⟨⟨o20, o21⟩, ⟨o22, o23⟩, ⟨o24, o25⟩, ⟨o26, o27⟩, ⟨o28, o29⟩, ⟨o30, o31⟩, ⟨o32, o33⟩, ⟨o34, o35⟩, ⟨o36, o37⟩, o38, -, -⟩ := id hok
    refine W.widen (k := 0) (n := 0) (Nat.le_of_ble_eq_true rfl) (Nat.le_of_ble_eq_true rfl) ?_
    subst hZ
    exact tz_thrown (tth_SM_IllegalArgumentException hx hb hfl hown hts (fun U hU hW => (hst _ _ hI.2 U hU hW).1) (by rw [hml]; exact hl.1) d_SM_type_11 d_SM_type_14 d_SM_type_15 d_SM_type_18 (tx_noH B (hts _ mw_476) _) (Nat.le_of_ble_eq_true rfl) (Nat.le_of_ble_eq_true rfl) (Nat.le_of_ble_eq_true rfl) (Nat.le_of_ble_eq_true rfl) (fun t ce hW hz hk hce hcl hvm => ⟨⟨⟨fun v9 hv9 => (by cases hv9), fun x9 hx9 => by cases hx9; exact (Or.inl ⟨⟨ce, hce, hcl, hvm⟩, hok, sh_kept hI.1 hk⟩)⟩, ta_thrown hI.2 hz hk⟩, _, rfl⟩) hI.2.2.2 hlocks)
  have j90 : ∀ (n : Nat) (H : Heap) (locs : List Loc) (ls : Array Slot) (v90_4 : Int32) (v90_1 : Int64) (t90_tl : Int), sI (dC, dI) vcl cI cJ (gsC a he dp co li op wd t90_tl lc fo sf lf nf) A s.heap H locs → okC he dp co li op wd t90_tl lc fo sf lf nf → 0 ≤ v90_4.toInt → v90_4.toInt ≤ 8 → 1 ≤ x3.toInt → x3.toInt ≤ 8 → lv_has ls 6 [(0, .ref (a 0)), (1, .long v90_1), (3, .int x3), (4, .int v90_4)] → 8 - v90_4.toInt < (n : Int) → W p l e (headSpec tw_tbl rm_SM_type).room s m ([.ref (a 0), .long y1, .int x3] : List Value).toArray below meth c H locs 0 0 Z (F0 m 90 ls []) := by
    intro n
    induction n with
    | zero => intro H locs ls v90_4 v90_1 t90_tl hI hok g90_0 g90_1 g90_2 g90_3 hl hme; exfalso; obtain ⟨⟨o39, o40⟩, ⟨o41, o42⟩, ⟨o43, o44⟩, ⟨o45, o46⟩, ⟨o47, o48⟩, ⟨o49, o50⟩, ⟨o51, o52⟩, ⟨o53, o54⟩, ⟨o55, o56⟩, o57, -, -⟩ := id hok; omega
    | succ n ih =>
      intro H locs ls v90_4 v90_1 t90_tl hI hok g90_0 g90_1 g90_2 g90_3 hl hme
      obtain ⟨⟨o58, o59⟩, ⟨o60, o61⟩, ⟨o62, o63⟩, ⟨o64, o65⟩, ⟨o66, o67⟩, ⟨o68, o69⟩, ⟨o70, o71⟩, ⟨o72, o73⟩, ⟨o74, o75⟩, o76, -, -⟩ := id hok
      refine lv_iload hx hb d_SM_type_90 (lv_at hl 3 rfl) ?_
      refine lv_iload_n hx hb d_SM_type_92 rfl (lv_at hl 2 rfl) ?_
      refine sn_icmp_ge (tgt := 116) hx hb d_SM_type_93 (by decide) (fun b77 => ?_) (fun b77 => ?_)
      · subst hZ
        exact tz_ret (W.vret hx hb hr (fun t ht hW => ⟨⟨fun v9 hv9 => by cases hv9; exact (⟨t90_tl, rfl, hok, by omega, by omega, by rw [ht]; exact hI.1⟩), fun x9 hx9 => (by cases hx9)⟩, hI.2.F ht⟩) hI.2.2.2 d_SM_type_116)
      · refine lv_aload_n hx hb d_SM_type_96 rfl (lv_at hl 0 rfl) ?_
        refine sv_getr (C := "StoryMachine") (T := T_SM) (N := 5) hx hb hts in_SM hown hK hI 0 kC_0 rfl 1 (by decide) (hts _ mw_311) rfl d_SM_type_97 ?_
        refine lv_lload_n hx hb d_SM_type_100 rfl (lv_at hl 1 rfl) ?_
        refine lv_iload_n hx hb d_SM_type_101 rfl (lv_at hl 2 rfl) ?_
        refine lv_iload hx hb d_SM_type_102 (lv_at hl 3 rfl) ?_
        refine tz_call (A1 := ga (adC a) H.size) (tz_runS (As := [.long v90_1, .int x3, .int v90_4]) (rest := [.ref (a 2)]) ⟨hx, hb, hml, hown, hts⟩ (c_SM_packed l hfl dC dI cI cJ a H.size he dp co li op wd t90_tl lc fo sf lf nf v90_1 x3 v90_4 hok (by omega) (by omega) (by omega) (by omega)) (tx_cb (n := 3) hts rfl rfl ⟨Nat.le_of_ble_eq_true rfl, Nat.le_of_ble_eq_true rfl⟩ (tx_code.of (hts _ mw_421)) (hts _ mw_1) (by decide +kernel) (hts _ mw_419)) (hts _ mw_420) ⟨tz_blind, fun U hU hW => ⟨rfl, by rw [hU], by rw [hU]; exact hI.1, va_K.moved hW.alike hK, hst _ _ hI.2 U hU hW⟩⟩ rfl rfl hl.1 rfl (lv_room (Nat.le_of_ble_eq_true rfl)) d_SM_type_104 ⟨Nat.le_of_ble_eq_true rfl, Nat.le_of_ble_eq_true rfl⟩) hI.2 (fun q _ h => ga_sub hAC hA0 hI.2 q h) (ga_sub hAC hA0 hI.2) (fun v t H1 locs1 ht hWt hpost _ _ hS => ?_) (fun x t H1 locs1 ht hWt hpost _ _ hS => (hpost.2 x rfl).elim)
        rcases hpost.1 _ rfl with ⟨z78, hv, c79, c79_0, c79_1, hI1⟩
        cases hv
        have hI : sI (dC, dI) vcl cI cJ (gsC a he dp co li op wd t90_tl lc fo sf lf nf) A s.heap H1 locs1 := ⟨by rw [← ht]; exact hI1, hS⟩
        clear hpost hI1 hS ht hWt
        revert hI; generalize H1 = H; generalize locs1 = locs; intro hI
        refine tz_call (A1 := ga (adC a) H.size) (tz_runV (C := "StoryMachine$Line") (As := [.int z78]) (rest := []) ⟨hx, hb, hml, hown, hts⟩ (c_Li_add l hfl dC dI cI cJ a H.size he dp co li op wd t90_tl lc fo sf lf nf z78 c79) (tx_cb (n := 1) hts rfl rfl ⟨Nat.le_of_ble_eq_true rfl, Nat.le_of_ble_eq_true rfl⟩ (tx_code.of (hts _ mw_480)) (hts _ mw_3) (by decide +kernel) (hts _ mw_477)) (hts _ mw_478) (hts _ mw_479) ⟨tz_blind, sv_recv (q0 := 2) hts in_Li hK hI kC_2 rfl, fun U hU hW => ⟨rfl, by rw [hU], by rw [hU]; exact hI.1, va_K.moved hW.alike hK, hst _ _ hI.2 U hU hW⟩⟩ rfl rfl hl.1 rfl (lv_room (Nat.le_of_ble_eq_true rfl)) d_SM_type_107 ⟨Nat.le_of_ble_eq_true rfl, Nat.le_of_ble_eq_true rfl⟩) hI.2 (fun q _ h => ga_sub hAC hA0 hI.2 q h) (ga_sub hAC hA0 hI.2) (fun v t H1 locs1 ht hWt hpost _ _ hS => ?_) (fun x t H1 locs1 ht hWt hpost _ _ hS => (hpost.2 x rfl).elim)
        rcases hpost.1 _ rfl with ⟨t_tl80, hv, c81, c81_0, hI1⟩
        cases hv
        have hI : sI (dC, dI) vcl cI cJ (gsC a he dp co li op wd t_tl80 lc fo sf lf nf) A s.heap H1 locs1 := ⟨by rw [← ht]; exact hI1, hS⟩
        obtain ⟨-, -, -, -, -, -, ⟨o82, o83⟩, -, -, -, -, -⟩ := id c81
        clear hpost hI1 hS ht hWt
        revert hI; generalize H1 = H; generalize locs1 = locs; intro hI
        refine sn_iinc (k := 3) hx hb d_SM_type_110 hl rfl (by decide) (by decide) (by omega) (by omega) (fun ls z84 hz84 hl => ?_)
        have hl : lv_has ls 6 [(4, .int z84), (0, .ref (a 0)), (1, .long v90_1), (3, .int x3)] := hl
        refine lv_goto (tgt := 90) hx hb d_SM_type_113 (by decide) ?_
        exact ih _ _ _ z84 v90_1 t_tl80 hI c81 (by omega) (by omega) (by omega) (by omega) (lv_sub hl [1, 2, 3, 0] rfl) (by omega)
  have j51 : ∀ (H : Heap) (locs : List Loc) (ls : Array Slot) (v51_4 v51_5 : Int32) (v51_1 : Int64), sI (dC, dI) vcl cI cJ (gsC a he dp co li op wd tl lc fo sf lf nf) A s.heap H locs → okC he dp co li op wd tl lc fo sf lf nf → 0 ≤ v51_4.toInt → v51_4.toInt ≤ 7 → 0 ≤ v51_5.toInt → v51_5.toInt ≤ 255 → 1 ≤ x3.toInt → x3.toInt ≤ 8 → lv_has ls 6 [(0, .ref (a 0)), (1, .long v51_1), (3, .int x3), (4, .int v51_4), (5, .int v51_5)] → W p l e (headSpec tw_tbl rm_SM_type).room s m ([.ref (a 0), .long y1, .int x3] : List Value).toArray below meth c H locs 0 0 Z (F0 m 51 ls []) := by
    intro H locs ls v51_4 v51_5 v51_1 hI hok g51_0 g51_1 g51_2 g51_3 g51_4 g51_5 hl
    obtain ⟨⟨o85, o86⟩, ⟨o87, o88⟩, ⟨o89, o90⟩, ⟨o91, o92⟩, ⟨o93, o94⟩, ⟨o95, o96⟩, ⟨o97, o98⟩, ⟨o99, o100⟩, ⟨o101, o102⟩, o103, -, -⟩ := id hok
    refine W.widen (k := 0) (n := 0) (Nat.le_of_ble_eq_true rfl) (Nat.le_of_ble_eq_true rfl) ?_
    subst hZ
    exact tz_thrown (tth_SM_IllegalArgumentException hx hb hfl hown hts (fun U hU hW => (hst _ _ hI.2 U hU hW).1) (by rw [hml]; exact hl.1) d_SM_type_51 d_SM_type_54 d_SM_type_55 d_SM_type_58 (tx_noH B (hts _ mw_476) _) (Nat.le_of_ble_eq_true rfl) (Nat.le_of_ble_eq_true rfl) (Nat.le_of_ble_eq_true rfl) (Nat.le_of_ble_eq_true rfl) (fun t ce hW hz hk hce hcl hvm => ⟨⟨⟨fun v9 hv9 => (by cases hv9), fun x9 hx9 => by cases hx9; exact (Or.inl ⟨⟨ce, hce, hcl, hvm⟩, hok, sh_kept hI.1 hk⟩)⟩, ta_thrown hI.2 hz hk⟩, _, rfl⟩) hI.2.2.2 hlocks)
  have j22 : ∀ (n : Nat) (H : Heap) (locs : List Loc) (ls : Array Slot) (v22_4 : Int32) (v22_1 : Int64), sI (dC, dI) vcl cI cJ (gsC a he dp co li op wd tl lc fo sf lf nf) A s.heap H locs → okC he dp co li op wd tl lc fo sf lf nf → 0 ≤ v22_4.toInt → v22_4.toInt ≤ 8 → 1 ≤ x3.toInt → x3.toInt ≤ 8 → lv_has ls 6 [(0, .ref (a 0)), (1, .long v22_1), (3, .int x3), (4, .int v22_4)] → 8 - v22_4.toInt < (n : Int) → W p l e (headSpec tw_tbl rm_SM_type).room s m ([.ref (a 0), .long y1, .int x3] : List Value).toArray below meth c H locs 0 0 Z (F0 m 22 ls []) := by
    intro n
    induction n with
    | zero => intro H locs ls v22_4 v22_1 hI hok g22_0 g22_1 g22_2 g22_3 hl hme; exfalso; obtain ⟨⟨o104, o105⟩, ⟨o106, o107⟩, ⟨o108, o109⟩, ⟨o110, o111⟩, ⟨o112, o113⟩, ⟨o114, o115⟩, ⟨o116, o117⟩, ⟨o118, o119⟩, ⟨o120, o121⟩, o122, -, -⟩ := id hok; omega
    | succ n ih =>
      intro H locs ls v22_4 v22_1 hI hok g22_0 g22_1 g22_2 g22_3 hl hme
      obtain ⟨⟨o123, o124⟩, ⟨o125, o126⟩, ⟨o127, o128⟩, ⟨o129, o130⟩, ⟨o131, o132⟩, ⟨o133, o134⟩, ⟨o135, o136⟩, ⟨o137, o138⟩, ⟨o139, o140⟩, o141, -, -⟩ := id hok
      refine lv_iload hx hb d_SM_type_22 (lv_at hl 3 rfl) ?_
      refine lv_iload_n hx hb d_SM_type_24 rfl (lv_at hl 2 rfl) ?_
      refine sn_icmp_ge (tgt := 65) hx hb d_SM_type_25 (by decide) (fun b142 => ?_) (fun b142 => ?_)
      · refine lv_aload_n hx hb d_SM_type_65 rfl (lv_at hl 0 rfl) ?_
        refine sv_getr (C := "StoryMachine") (T := T_SM) (N := 5) hx hb hts in_SM hown hK hI 0 kC_0 rfl 1 (by decide) (hts _ mw_311) rfl d_SM_type_66 ?_
        refine sv_gete (C := "StoryMachine$Line") (T := T_Li) (N := 5) hx hb hts in_Li hown hK hI 2 kC_2 rfl 1 (by decide) (hts _ mw_56) rfl d_SM_type_69 (fun z143 hz143 => ?_)
        refine lv_iload_n hx hb d_SM_type_72 rfl (lv_at hl 2 rfl) ?_
        refine sn_iadd hx hb d_SM_type_73 (by omega) (by omega) (fun z144 hz144 => ?_)
        refine sn_bipush hx hb d_SM_type_74 (by decide) (fun z145 hz145 => ?_)
        refine sn_icmp_le (tgt := 87) hx hb d_SM_type_76 (by decide) (fun b146 => ?_) (fun b146 => ?_)
        · refine sn_iconst hx hb d_SM_type_87 (by decide) (fun z147 hz147 => ?_)
          refine lv_istore (lv' := [(4, .int z147), (0, .ref (a 0)), (1, .long v22_1), (3, .int x3)]) hx hb d_SM_type_88 hl (by decide) rfl (fun ls hl => ?_)
          exact j90 9 _ _ _ z147 v22_1 tl hI hok (by omega) (by omega) (by omega) (by omega) (lv_sub hl [1, 2, 3, 0] rfl) (by omega)
        · refine W.widen (k := 0) (n := 0) (Nat.le_of_ble_eq_true rfl) (Nat.le_of_ble_eq_true rfl) ?_
          subst hZ
          exact tz_thrown (tth_SM_IllegalStateException hx hb hfl hown hts (fun U hU hW => (hst _ _ hI.2 U hU hW).1) (by rw [hml]; exact hl.1) d_SM_type_79 d_SM_type_82 d_SM_type_83 d_SM_type_86 (tx_noH B (hts _ mw_476) _) (Nat.le_of_ble_eq_true rfl) (Nat.le_of_ble_eq_true rfl) (Nat.le_of_ble_eq_true rfl) (Nat.le_of_ble_eq_true rfl) (fun t ce hW hz hk hce hcl hvm => ⟨⟨⟨fun v9 hv9 => (by cases hv9), fun x9 hx9 => by cases hx9; exact (Or.inr (⟨⟨ce, hce, hcl, hvm⟩, hok, by omega, by omega, sh_kept hI.1 hk⟩))⟩, ta_thrown hI.2 hz hk⟩, _, rfl⟩) hI.2.2.2 hlocks)
      · refine lv_lload_n hx hb d_SM_type_28 rfl (lv_at hl 1 rfl) ?_
        refine lv_iload_n hx hb d_SM_type_29 rfl (lv_at hl 2 rfl) ?_
        refine lv_iload hx hb d_SM_type_30 (lv_at hl 3 rfl) ?_
        refine tz_call (A1 := ga (adC a) H.size) (tz_runS (As := [.long v22_1, .int x3, .int v22_4]) (rest := []) ⟨hx, hb, hml, hown, hts⟩ (c_SM_packed l hfl dC dI cI cJ a H.size he dp co li op wd tl lc fo sf lf nf v22_1 x3 v22_4 hok (by omega) (by omega) (by omega) (by omega)) (tx_cb (n := 3) hts rfl rfl ⟨Nat.le_of_ble_eq_true rfl, Nat.le_of_ble_eq_true rfl⟩ (tx_code.of (hts _ mw_421)) (hts _ mw_1) (by decide +kernel) (hts _ mw_419)) (hts _ mw_420) ⟨tz_blind, fun U hU hW => ⟨rfl, by rw [hU], by rw [hU]; exact hI.1, va_K.moved hW.alike hK, hst _ _ hI.2 U hU hW⟩⟩ rfl rfl hl.1 rfl (lv_room (Nat.le_of_ble_eq_true rfl)) d_SM_type_32 ⟨Nat.le_of_ble_eq_true rfl, Nat.le_of_ble_eq_true rfl⟩) hI.2 (fun q _ h => ga_sub hAC hA0 hI.2 q h) (ga_sub hAC hA0 hI.2) (fun v t H1 locs1 ht hWt hpost _ _ hS => ?_) (fun x t H1 locs1 ht hWt hpost _ _ hS => (hpost.2 x rfl).elim)
        rcases hpost.1 _ rfl with ⟨z148, hv, c149, c149_0, c149_1, hI1⟩
        cases hv
        have hI : sI (dC, dI) vcl cI cJ (gsC a he dp co li op wd tl lc fo sf lf nf) A s.heap H1 locs1 := ⟨by rw [← ht]; exact hI1, hS⟩
        clear hpost hI1 hS ht hWt
        revert hI; generalize H1 = H; generalize locs1 = locs; intro hI
        refine lv_istore (lv' := [(5, .int z148), (0, .ref (a 0)), (1, .long v22_1), (3, .int x3), (4, .int v22_4)]) hx hb d_SM_type_35 hl (by decide) rfl (fun ls hl => ?_)
        refine lv_iload hx hb d_SM_type_37 (lv_at hl 0 rfl) ?_
        refine sn_bipush hx hb d_SM_type_39 (by decide) (fun z150 hz150 => ?_)
        refine sn_icmp_lt (tgt := 51) hx hb d_SM_type_41 (by decide) (fun b151 => ?_) (fun b151 => ?_)
        · exact j51 _ _ _ v22_4 z148 v22_1 hI c149 (by omega) (by omega) (by omega) (by omega) (by omega) (by omega) (lv_sub hl [1, 2, 3, 4, 0] rfl)
        · refine lv_iload hx hb d_SM_type_44 (lv_at hl 0 rfl) ?_
          refine sn_bipush hx hb d_SM_type_46 (by decide) (fun z152 hz152 => ?_)
          refine sn_icmp_le (tgt := 59) hx hb d_SM_type_48 (by decide) (fun b153 => ?_) (fun b153 => ?_)
          · refine sn_iinc (k := 4) hx hb d_SM_type_59 hl rfl (by decide) (by decide) (by omega) (by omega) (fun ls z154 hz154 hl => ?_)
            have hl : lv_has ls 6 [(4, .int z154), (5, .int z148), (0, .ref (a 0)), (1, .long v22_1), (3, .int x3)] := hl
            refine lv_goto (tgt := 22) hx hb d_SM_type_62 (by decide) ?_
            exact ih _ _ _ z154 v22_1 hI c149 (by omega) (by omega) (by omega) (by omega) (lv_sub hl [2, 3, 4, 0] rfl) (by omega)
          · exact j51 _ _ _ v22_4 z148 v22_1 hI c149 (by omega) (by omega) (by omega) (by omega) (by omega) (by omega) (lv_sub hl [1, 2, 3, 4, 0] rfl)
  refine lv_iload_n hx hb d_SM_type_0 rfl (lv_at hl 2 rfl) ?_
  refine sn_iconst hx hb d_SM_type_1 (by decide) (fun z155 hz155 => ?_)
  refine sn_icmp_lt (tgt := 11) hx hb d_SM_type_2 (by decide) (fun b156 => ?_) (fun b156 => ?_)
  · exact j11 _ _ _ y1 hI hok (lv_sub hl [0, 1, 2] rfl)
  · refine lv_iload_n hx hb d_SM_type_5 rfl (lv_at hl 2 rfl) ?_
    refine sn_bipush hx hb d_SM_type_6 (by decide) (fun z157 hz157 => ?_)
    refine sn_icmp_le (tgt := 19) hx hb d_SM_type_8 (by decide) (fun b158 => ?_) (fun b158 => ?_)
    · refine sn_iconst hx hb d_SM_type_19 (by decide) (fun z159 hz159 => ?_)
      refine lv_istore (lv' := [(4, .int z159), (0, .ref (a 0)), (1, .long y1), (3, .int x3)]) hx hb d_SM_type_20 hl (by decide) rfl (fun ls hl => ?_)
      exact j22 9 _ _ _ z159 y1 hI hok (by omega) (by omega) (by omega) (by omega) (lv_sub hl [1, 2, 3, 0] rfl) (by omega)
    · exact j11 _ _ _ y1 hI hok (lv_sub hl [0, 1, 2] rfl)
abbrev q_SM_enter (dC : Nat → ClassId) (dI : Nat → Nat → Nat) (cI cJ : ClassId) (a : Nat → Nat) (he dp co li op wd tl lc fo : Int) (sf lf nf : Nat → Int32) : Outcome → State → Prop := fun o t => (∀ v, o = .returned v → ((∃ (tl_ : Int), v = none ∧ okC he dp co li op wd tl_ lc fo sf lf nf ∧ (tl_ ≤ 0) ∧ sh_I (dC, dI) vcl cI cJ (gsC a he dp co li op wd tl_ lc fo sf lf nf) t.heap))) ∧ (∀ x, o = .threw x → (False))
def rm_SM_enter : Room := { frames := 1, cells := 0, slots := 0, locals := 23 }
set_option maxHeartbeats 4000000 in
set_option maxRecDepth 100000 in
theorem c_SM_enter (l : Launch) (hfl : l.flags = pinnedFlags ++ [noTraceFlag]) (dC : Nat → ClassId) (dI : Nat → Nat → Nat) (cI cJ : ClassId) (a : Nat → Nat) (sz : Nat) (he dp co li op wd tl lc fo : Int) (sf lf nf : Nat → Int32) (hok : okC he dp co li op wd tl lc fo sf lf nf) : tz_Met l ⟨"StoryMachine", "enter", "()V"⟩ tw_tbl rm_SM_enter (tzP (dC, dI) vcl cI cJ (gsC a he dp co li op wd tl lc fo sf lf nf) a (adC a) [.ref (a 0)] sz) (tq_Q (q_SM_enter dC dI cI cJ a he dp co li op wd tl lc fo sf lf nf) (ga (adC a) sz)) 0 0 0 0 (ga (adC a) sz) := by
  refine tz_ofW (cc := prog_1_method_6_code) (maxL := 1) (ret := none) (by decide) (tx_isM mw_329) ?_
  intro p e s m args below meth c s₁ B hml hv
  obtain ⟨rfl, hsz, hI0, hK, hst0⟩ := hv
  have hx := B.exec
  have hb := B.bytes
  have hr := B.returns
  have hts := atoms_spec (ws := tw_tbl) B.pre
  have hown : s.vm.findClass "StoryMachine" = some m.cls := findClass_of_methodNamed B.named
  have hlocks := B.notSynchronized
  subst hsz
  have hst := fun (H : Heap) (locs : List Loc) (hS : va_S (ga (adC a) s.heap.size) s.heap H locs) (U : State) (hU : U.heap = H) (hW : s.WarmedH U.vm) => zS_all adC_map hI0 hst0 hS hU hW
  have hAC : ∀ q ∈ adC a, ga (adC a) s.heap.size q := fun q h => Or.inl h
  have hA0 : ∀ q, s.heap.size ≤ q → ga (adC a) s.heap.size q := fun q h => Or.inr h
  have hI : sI (dC, dI) vcl cI cJ (gsC a he dp co li op wd tl lc fo sf lf nf) (ga (adC a) s.heap.size) s.heap s.heap [] := ⟨hI0, va_S.rf⟩
  clear hI0 hst0
  have hl := lv_entry ([.ref (a 0)]) (n := 1) (Nat.le_of_ble_eq_true rfl)
  rw [lg_entry_eq]
  generalize (lg_sl ([.ref (a 0)]) ++ List.replicate (1 - (lg_sl ([.ref (a 0)])).length) Slot.unset).toArray = ls at hl ⊢
  have hl : lv_has ls 1 [(0, .ref (a 0))] := hl
  generalize hZ : tz_MQ below (tq_Q (q_SM_enter dC dI cI cJ a he dp co li op wd tl lc fo sf lf nf) (ga (adC a) s.heap.size)) ([.ref (a 0)] : List Value).toArray s 0 0 0 0 (ga (adC a) s.heap.size) = Z
  obtain ⟨A, hAe⟩ : ∃ A, A = ga (adC a) s.heap.size := ⟨_, rfl⟩
  rw [← hAe] at hst hAC hA0 hI hZ
  refine sv_start hI (fun H locs hI => ?_)
  obtain ⟨⟨o1, o2⟩, ⟨o3, o4⟩, ⟨o5, o6⟩, ⟨o7, o8⟩, ⟨o9, o10⟩, ⟨o11, o12⟩, ⟨o13, o14⟩, ⟨o15, o16⟩, ⟨o17, o18⟩, o19, -, -⟩ := id hok
  refine lv_aload_n hx hb d_SM_enter_0 rfl (lv_at hl 0 rfl) ?_
  refine sv_getr (C := "StoryMachine") (T := T_SM) (N := 5) hx hb hts in_SM hown hK hI 0 kC_0 rfl 1 (by decide) (hts _ mw_311) rfl d_SM_enter_1 ?_
  refine tz_call (A1 := ga (adC a) H.size) (tz_runV (C := "StoryMachine$Line") (As := []) (rest := []) ⟨hx, hb, hml, hown, hts⟩ (c_Li_finish l hfl dC dI cI cJ a H.size he dp co li op wd tl lc fo sf lf nf  hok) (tx_cb (n := 0) hts rfl rfl ⟨Nat.le_of_ble_eq_true rfl, Nat.le_of_ble_eq_true rfl⟩ (tx_code.of (hts _ mw_333)) (hts _ mw_3) (by decide +kernel) (hts _ mw_330)) (hts _ mw_331) (hts _ mw_332) ⟨tz_blind, sv_recv (q0 := 2) hts in_Li hK hI kC_2 rfl, fun U hU hW => ⟨rfl, by rw [hU], by rw [hU]; exact hI.1, va_K.moved hW.alike hK, hst _ _ hI.2 U hU hW⟩⟩ rfl rfl hl.1 rfl (lv_room (Nat.le_of_ble_eq_true rfl)) d_SM_enter_4 ⟨Nat.le_of_ble_eq_true rfl, Nat.le_of_ble_eq_true rfl⟩) hI.2 (fun q _ h => ga_sub hAC hA0 hI.2 q h) (ga_sub hAC hA0 hI.2) (fun v t H1 locs1 ht hWt hpost _ _ hS => ?_) (fun x t H1 locs1 ht hWt hpost _ _ hS => (hpost.2 x rfl).elim)
  rcases hpost.1 _ rfl with ⟨t_tl20, hv, c21, c21_0, hI1⟩
  cases hv
  have hI : sI (dC, dI) vcl cI cJ (gsC a he dp co li op wd t_tl20 lc fo sf lf nf) A s.heap H1 locs1 := ⟨by rw [← ht]; exact hI1, hS⟩
  obtain ⟨-, -, -, -, -, -, ⟨o22, o23⟩, -, -, -, -, -⟩ := id c21
  clear hpost hI1 hS ht hWt
  revert hI; generalize H1 = H; generalize locs1 = locs; intro hI
  subst hZ
  exact tz_ret (W.vret hx hb hr (fun t ht hW => ⟨⟨fun v9 hv9 => by cases hv9; exact (⟨t_tl20, rfl, c21, by omega, by rw [ht]; exact hI.1⟩), fun x9 hx9 => (by cases hx9)⟩, hI.2.F ht⟩) hI.2.2.2 d_SM_enter_7)
abbrev q_SM_run (dC : Nat → ClassId) (dI : Nat → Nat → Nat) (cI cJ : ClassId) (a : Nat → Nat) (he dp co li op wd tl lc fo : Int) (sf lf nf : Nat → Int32) (x1 : Int32) : Outcome → State → Prop := fun o t => (∀ v, o = .returned v → ((∃ (z : Int32) (he_ dp_ co_ li_ op_ wd_ lc_ fo_ : Int) (sf_ lf_ nf_ : Nat → Int32), v = some (.int z) ∧ okC he_ dp_ co_ li_ op_ wd_ tl lc_ fo_ sf_ lf_ nf_ ∧ (0 ≤ z.toInt) ∧ (z.toInt ≤ 5) ∧ (1 ≤ x1.toInt) ∧ (x1.toInt ≤ 300) ∧ sh_I (dC, dI) vcl cI cJ (gsC a he_ dp_ co_ li_ op_ wd_ tl lc_ fo_ sf_ lf_ nf_) t.heap))) ∧ (∀ x, o = .threw x → ((ta_Ex "java/lang/IllegalArgumentException" x t ∧ okC he dp co li op wd tl lc fo sf lf nf ∧ sh_I (dC, dI) vcl cI cJ (gsC a he dp co li op wd tl lc fo sf lf nf) t.heap) ∨ (ta_Ex "java/lang/IllegalStateException" x t ∧ okC he dp co li op wd tl lc fo sf lf nf ∧ (1 ≤ x1.toInt) ∧ (x1.toInt ≤ 300) ∧ sh_I (dC, dI) vcl cI cJ (gsC a he dp co li op wd tl lc fo sf lf nf) t.heap)))
def rm_SM_run : Room := { frames := 14, cells := 301, slots := 1806, locals := 283 }
set_option maxHeartbeats 4000000 in
set_option maxRecDepth 100000 in
theorem c_SM_run (l : Launch) (hfl : l.flags = pinnedFlags ++ [noTraceFlag]) (dC : Nat → ClassId) (dI : Nat → Nat → Nat) (cI cJ : ClassId) (a : Nat → Nat) (sz : Nat) (he dp co li op wd tl lc fo : Int) (sf lf nf : Nat → Int32) (x1 : Int32) (hok : okC he dp co li op wd tl lc fo sf lf nf) : tz_Met l ⟨"StoryMachine", "run", "(I)I"⟩ tw_tbl rm_SM_run (tzP (dC, dI) vcl cI cJ (gsC a he dp co li op wd tl lc fo sf lf nf) a (adC a) [.ref (a 0), .int x1] sz) (tq_Q (q_SM_run dC dI cI cJ a he dp co li op wd tl lc fo sf lf nf x1) (ga (adC a) sz)) 301 1806 1 6 (ga (adC a) sz) := by
  refine tz_ofW (cc := prog_1_method_7_code) (maxL := 4) (ret := (some .int)) (by decide) (tx_isM mw_487) ?_
  intro p e s m args below meth c s₁ B hml hv
  obtain ⟨rfl, hsz, hI0, hK, hst0⟩ := hv
  have hx := B.exec
  have hb := B.bytes
  have hr := B.returns
  have hts := atoms_spec (ws := tw_tbl) B.pre
  have hown : s.vm.findClass "StoryMachine" = some m.cls := findClass_of_methodNamed B.named
  have hlocks := B.notSynchronized
  subst hsz
  have hst := fun (H : Heap) (locs : List Loc) (hS : va_S (ga (adC a) s.heap.size) s.heap H locs) (U : State) (hU : U.heap = H) (hW : s.WarmedH U.vm) => zS_all adC_map hI0 hst0 hS hU hW
  have hAC : ∀ q ∈ adC a, ga (adC a) s.heap.size q := fun q h => Or.inl h
  have hA0 : ∀ q, s.heap.size ≤ q → ga (adC a) s.heap.size q := fun q h => Or.inr h
  have hI : sI (dC, dI) vcl cI cJ (gsC a he dp co li op wd tl lc fo sf lf nf) (ga (adC a) s.heap.size) s.heap s.heap [] := ⟨hI0, va_S.rf⟩
  clear hI0 hst0
  have hl := lv_entry ([.ref (a 0), .int x1]) (n := 4) (Nat.le_of_ble_eq_true rfl)
  rw [lg_entry_eq]
  generalize (lg_sl ([.ref (a 0), .int x1]) ++ List.replicate (4 - (lg_sl ([.ref (a 0), .int x1])).length) Slot.unset).toArray = ls at hl ⊢
  have hl : lv_has ls 4 [(0, .ref (a 0)), (1, .int x1)] := hl
  generalize hZ : tz_MQ below (tq_Q (q_SM_run dC dI cI cJ a he dp co li op wd tl lc fo sf lf nf x1) (ga (adC a) s.heap.size)) ([.ref (a 0), .int x1] : List Value).toArray s 301 1806 1 6 (ga (adC a) s.heap.size) = Z
  obtain ⟨A, hAe⟩ : ∃ A, A = ga (adC a) s.heap.size := ⟨_, rfl⟩
  rw [← hAe] at hst hAC hA0 hI hZ
  refine sv_start hI (fun H locs hI => ?_)
  obtain ⟨⟨o1, o2⟩, ⟨o3, o4⟩, ⟨o5, o6⟩, ⟨o7, o8⟩, ⟨o9, o10⟩, ⟨o11, o12⟩, ⟨o13, o14⟩, ⟨o15, o16⟩, ⟨o17, o18⟩, o19, -, -⟩ := id hok
  have gx1 := sn_rng x1
  have j12 : ∀ (H : Heap) (locs : List Loc) (ls : Array Slot), sI (dC, dI) vcl cI cJ (gsC a he dp co li op wd tl lc fo sf lf nf) A s.heap H locs → okC he dp co li op wd tl lc fo sf lf nf → lv_has ls 4 [(0, .ref (a 0)), (1, .int x1)] → W p l e (headSpec tw_tbl rm_SM_run).room s m ([.ref (a 0), .int x1] : List Value).toArray below meth c H locs 0 0 Z (F0 m 12 ls []) := by
    intro H locs ls hI hok hl
    obtain ⟨⟨o20, o21⟩, ⟨o22, o23⟩, ⟨o24, o25⟩, ⟨o26, o27⟩, ⟨o28, o29⟩, ⟨o30, o31⟩, ⟨o32, o33⟩, ⟨o34, o35⟩, ⟨o36, o37⟩, o38, -, -⟩ := id hok
    refine W.widen (k := 0) (n := 0) (Nat.le_of_ble_eq_true rfl) (Nat.le_of_ble_eq_true rfl) ?_
    subst hZ
    exact tz_thrown (tth_SM_IllegalArgumentException hx hb hfl hown hts (fun U hU hW => (hst _ _ hI.2 U hU hW).1) (by rw [hml]; exact hl.1) d_SM_run_12 d_SM_run_15 d_SM_run_16 d_SM_run_19 (tx_noH B (hts _ mw_487) _) (Nat.le_of_ble_eq_true rfl) (Nat.le_of_ble_eq_true rfl) (Nat.le_of_ble_eq_true rfl) (Nat.le_of_ble_eq_true rfl) (fun t ce hW hz hk hce hcl hvm => ⟨⟨⟨fun v9 hv9 => (by cases hv9), fun x9 hx9 => by cases hx9; exact (Or.inl ⟨⟨ce, hce, hcl, hvm⟩, hok, sh_kept hI.1 hk⟩)⟩, ta_thrown hI.2 hz hk⟩, _, rfl⟩) hI.2.2.2 hlocks)
  have j42 : ∀ (n : Nat) (H : Heap) (locs : List Loc) (ls : Array Slot) (v42_2 v42_3 : Int32) (t42_he t42_dp t42_co t42_li t42_op t42_wd t42_lc t42_fo : Int) (t42_sf t42_lf t42_nf : Nat → Int32), sI (dC, dI) vcl cI cJ (gsC a t42_he t42_dp t42_co t42_li t42_op t42_wd tl t42_lc t42_fo t42_sf t42_lf t42_nf) A s.heap H locs → okC t42_he t42_dp t42_co t42_li t42_op t42_wd tl t42_lc t42_fo t42_sf t42_lf t42_nf → 0 ≤ v42_2.toInt → v42_2.toInt ≤ 5 → 0 ≤ v42_3.toInt → v42_3.toInt ≤ 300 → 1 ≤ x1.toInt → x1.toInt ≤ 300 → lv_has ls 4 [(0, .ref (a 0)), (1, .int x1), (2, .int v42_2), (3, .int v42_3)] → 300 - v42_3.toInt < (n : Int) → n ≤ 301 → W p l e (headSpec tw_tbl rm_SM_run).room s m ([.ref (a 0), .int x1] : List Value).toArray below meth c H locs (0 + 1 * (301 - n)) (0 + 6 * (301 - n)) Z (F0 m 42 ls []) := by
    intro n
    induction n with
    | zero => intro H locs ls v42_2 v42_3 t42_he t42_dp t42_co t42_li t42_op t42_wd t42_lc t42_fo t42_sf t42_lf t42_nf hI hok g42_0 g42_1 g42_2 g42_3 g42_4 g42_5 hl hme hnB; exfalso; obtain ⟨⟨o39, o40⟩, ⟨o41, o42⟩, ⟨o43, o44⟩, ⟨o45, o46⟩, ⟨o47, o48⟩, ⟨o49, o50⟩, ⟨o51, o52⟩, ⟨o53, o54⟩, ⟨o55, o56⟩, o57, -, -⟩ := id hok; omega
    | succ n ih =>
      intro H locs ls v42_2 v42_3 t42_he t42_dp t42_co t42_li t42_op t42_wd t42_lc t42_fo t42_sf t42_lf t42_nf hI hok g42_0 g42_1 g42_2 g42_3 g42_4 g42_5 hl hme hnB
      obtain ⟨⟨o58, o59⟩, ⟨o60, o61⟩, ⟨o62, o63⟩, ⟨o64, o65⟩, ⟨o66, o67⟩, ⟨o68, o69⟩, ⟨o70, o71⟩, ⟨o72, o73⟩, ⟨o74, o75⟩, o76, -, -⟩ := id hok
      refine lv_iload_n hx hb d_SM_run_42 rfl (lv_at hl 3 rfl) ?_
      refine lv_iload_n hx hb d_SM_run_43 rfl (lv_at hl 1 rfl) ?_
      refine sn_icmp_ge (tgt := 65) hx hb d_SM_run_44 (by decide) (fun b77 => ?_) (fun b77 => ?_)
      · refine lv_iload_n hx hb d_SM_run_65 rfl (lv_at hl 2 rfl) ?_
        refine W.widen (k := 301) (n := 1806) (by omega) (by omega) ?_
        subst hZ
        exact tz_ret (W.iret (v := v42_2) hx hb hr (fun t ht hW => ⟨⟨fun v9 hv9 => by cases hv9; exact (⟨v42_2, t42_he, t42_dp, t42_co, t42_li, t42_op, t42_wd, t42_lc, t42_fo, t42_sf, t42_lf, t42_nf, rfl, hok, by omega, by omega, by omega, by omega, by rw [ht]; exact hI.1⟩), fun x9 hx9 => (by cases hx9)⟩, hI.2.F ht⟩) hI.2.2.2 d_SM_run_66)
      · refine lv_iload_n hx hb d_SM_run_47 rfl (lv_at hl 2 rfl) ?_
        refine sn_if_ne (tgt := 65) hx hb d_SM_run_48 (by decide) (fun b78 => ?_) (fun b78 => ?_)
        · refine lv_iload_n hx hb d_SM_run_65 rfl (lv_at hl 2 rfl) ?_
          refine W.widen (k := 301) (n := 1806) (by omega) (by omega) ?_
          subst hZ
          exact tz_ret (W.iret (v := v42_2) hx hb hr (fun t ht hW => ⟨⟨fun v9 hv9 => by cases hv9; exact (⟨v42_2, t42_he, t42_dp, t42_co, t42_li, t42_op, t42_wd, t42_lc, t42_fo, t42_sf, t42_lf, t42_nf, rfl, hok, by omega, by omega, by omega, by omega, by rw [ht]; exact hI.1⟩), fun x9 hx9 => (by cases hx9)⟩, hI.2.F ht⟩) hI.2.2.2 d_SM_run_66)
        · refine lv_aload_n hx hb d_SM_run_51 rfl (lv_at hl 0 rfl) ?_
          refine sv_getr (C := "StoryMachine") (T := T_SM) (N := 5) hx hb hts in_SM hown hK hI 0 kC_0 rfl 4 (by decide) (hts _ mw_314) rfl d_SM_run_52 ?_
          refine tz_call (A1 := ga (adC a) H.size) (tz_runV (C := "StoryMachine$Engine") (As := []) (rest := []) ⟨hx, hb, hml, hown, hts⟩ (c_En_tryStep l hfl dC dI cI cJ a H.size t42_he t42_dp t42_co t42_li t42_op t42_wd tl t42_lc t42_fo t42_sf t42_lf t42_nf  hok) (tx_cb (n := 0) hts rfl rfl ⟨Nat.le_of_ble_eq_true rfl, Nat.le_of_ble_eq_true rfl⟩ (tx_code.ofW (hts _ mw_491)) (hts _ mw_6) (by decide +kernel) (hts _ mw_488)) (hts _ mw_489) (hts _ mw_490) ⟨tz_blind, sv_recv (q0 := 5) hts in_En hK hI kC_5 rfl, fun U hU hW => ⟨rfl, by rw [hU], by rw [hU]; exact hI.1, va_K.moved hW.alike hK, hst _ _ hI.2 U hU hW⟩⟩ rfl rfl hl.1 rfl (lv_room (Nat.le_of_ble_eq_true rfl)) d_SM_run_55 ⟨by show (0 + 1 * (301 - (n + 1))) + 1 ≤ 301; omega, by show (0 + 6 * (301 - (n + 1))) + 6 ≤ 1806; omega⟩) hI.2 (fun q _ h => ga_sub hAC hA0 hI.2 q h) (ga_sub hAC hA0 hI.2) (fun v t H1 locs1 ht hWt hpost _ _ hS => ?_) (fun x t H1 locs1 ht hWt hpost _ _ hS => (hpost.2 x rfl).elim)
          rcases hpost.1 _ rfl with ⟨z79, t_he80, t_dp81, t_co82, t_li83, t_op84, t_wd85, t_lc86, t_fo87, f_sf88, f_lf89, f_nf90, hv, c91, c91_0, c91_1, hI1⟩
          cases hv
          have hI : sI (dC, dI) vcl cI cJ (gsC a t_he80 t_dp81 t_co82 t_li83 t_op84 t_wd85 tl t_lc86 t_fo87 f_sf88 f_lf89 f_nf90) A s.heap H1 locs1 := ⟨by rw [← ht]; exact hI1, hS⟩
          obtain ⟨⟨o92, o93⟩, ⟨o94, o95⟩, ⟨o96, o97⟩, ⟨o98, o99⟩, ⟨o100, o101⟩, ⟨o102, o103⟩, -, ⟨o104, o105⟩, ⟨o106, o107⟩, o108, -, -⟩ := id c91
          clear hpost hI1 hS ht hWt
          revert hI; generalize H1 = H; generalize locs1 = locs; intro hI
          refine lv_istore_n (lv' := [(2, .int z79), (0, .ref (a 0)), (1, .int x1), (3, .int v42_3)]) hx hb d_SM_run_58 rfl hl (by decide) rfl (fun ls hl => ?_)
          refine sn_iinc (k := 3) hx hb d_SM_run_59 hl rfl (by decide) (by decide) (by omega) (by omega) (fun ls z109 hz109 hl => ?_)
          have hl : lv_has ls 4 [(3, .int z109), (2, .int z79), (0, .ref (a 0)), (1, .int x1)] := hl
          refine lv_goto (tgt := 42) hx hb d_SM_run_62 (by decide) ?_
          refine W.widen (k := (0 + 1 * (301 - n))) (n := (0 + 6 * (301 - n))) (by omega) (by omega) ?_
          exact ih _ _ _ z79 z109 t_he80 t_dp81 t_co82 t_li83 t_op84 t_wd85 t_lc86 t_fo87 f_sf88 f_lf89 f_nf90 hI c91 (by omega) (by omega) (by omega) (by omega) (by omega) (by omega) (lv_sub hl [2, 3, 1, 0] rfl) (by omega) (by omega)
  refine lv_iload_n hx hb d_SM_run_0 rfl (lv_at hl 1 rfl) ?_
  refine sn_iconst hx hb d_SM_run_1 (by decide) (fun z110 hz110 => ?_)
  refine sn_icmp_lt (tgt := 12) hx hb d_SM_run_2 (by decide) (fun b111 => ?_) (fun b111 => ?_)
  · exact j12 _ _ _  hI hok (lv_sub hl [0, 1] rfl)
  · refine lv_iload_n hx hb d_SM_run_5 rfl (lv_at hl 1 rfl) ?_
    refine sn_sipush hx hb d_SM_run_6 (by decide) (fun z112 hz112 => ?_)
    refine sn_icmp_le (tgt := 20) hx hb d_SM_run_9 (by decide) (fun b113 => ?_) (fun b113 => ?_)
    · refine lv_aload_n hx hb d_SM_run_20 rfl (lv_at hl 0 rfl) ?_
      refine sv_getr (C := "StoryMachine") (T := T_SM) (N := 5) hx hb hts in_SM hown hK hI 0 kC_0 rfl 4 (by decide) (hts _ mw_314) rfl d_SM_run_21 ?_
      refine sv_get (C := "StoryMachine$Engine") (T := T_En) (N := 15) hx hb hts in_En hown hK hI 5 kC_5 rfl 10 (by decide) (hts _ mw_272) rfl d_SM_run_24 (fun z114 hz114a hz114b => ?_)
      refine sn_if_ne (tgt := 38) hx hb d_SM_run_27 (by decide) (fun b115 => ?_) (fun b115 => ?_)
      · refine sn_iconst hx hb d_SM_run_38 (by decide) (fun z116 hz116 => ?_)
        refine lv_istore_n (lv' := [(2, .int z116), (0, .ref (a 0)), (1, .int x1)]) hx hb d_SM_run_39 rfl hl (by decide) rfl (fun ls hl => ?_)
        refine sn_iconst hx hb d_SM_run_40 (by decide) (fun z117 hz117 => ?_)
        refine lv_istore_n (lv' := [(3, .int z117), (2, .int z116), (0, .ref (a 0)), (1, .int x1)]) hx hb d_SM_run_41 rfl hl (by decide) rfl (fun ls hl => ?_)
        refine W.widen (k := (0 + 1 * (301 - 301))) (n := (0 + 6 * (301 - 301))) (by omega) (by omega) ?_
        exact j42 301 _ _ _ z116 z117 he dp co li op wd lc fo sf lf nf hI hok (by omega) (by omega) (by omega) (by omega) (by omega) (by omega) (lv_sub hl [2, 3, 1, 0] rfl) (by omega) (by omega)
      · refine W.widen (k := 0) (n := 0) (Nat.le_of_ble_eq_true rfl) (Nat.le_of_ble_eq_true rfl) ?_
        subst hZ
        exact tz_thrown (tth_SM_IllegalStateException hx hb hfl hown hts (fun U hU hW => (hst _ _ hI.2 U hU hW).1) (by rw [hml]; exact hl.1) d_SM_run_30 d_SM_run_33 d_SM_run_34 d_SM_run_37 (tx_noH B (hts _ mw_487) _) (Nat.le_of_ble_eq_true rfl) (Nat.le_of_ble_eq_true rfl) (Nat.le_of_ble_eq_true rfl) (Nat.le_of_ble_eq_true rfl) (fun t ce hW hz hk hce hcl hvm => ⟨⟨⟨fun v9 hv9 => (by cases hv9), fun x9 hx9 => by cases hx9; exact (Or.inr (⟨⟨ce, hce, hcl, hvm⟩, hok, by omega, by omega, sh_kept hI.1 hk⟩))⟩, ta_thrown hI.2 hz hk⟩, _, rfl⟩) hI.2.2.2 hlocks)
    · exact j12 _ _ _  hI hok (lv_sub hl [0, 1] rfl)
