abbrev q_En_call (dC : Nat → ClassId) (dI : Nat → Nat → Nat) (cI cJ : ClassId) (a : Nat → Nat) (he dp co li op wd tl lc fo : Int) (sf lf nf : Nat → Int32) (x1 : Int32) : Outcome → State → Prop := fun o t => (∀ v, o = .returned v → ((∃ (he_ dp_ : Int) (nf_ : Nat → Int32), v = none ∧ okC he_ dp_ co li op wd tl lc fo sf lf nf_ ∧ sh_I (dC, dI) vcl cI cJ (gsC a he_ dp_ co li op wd tl lc fo sf lf nf_) t.heap))) ∧ (∀ x, o = .threw x → ((ta_Ex "java/lang/IllegalArgumentException" x t ∧ okC he dp co li op wd tl lc fo sf lf nf ∧ sh_I (dC, dI) vcl cI cJ (gsC a he dp co li op wd tl lc fo sf lf nf) t.heap) ∨ (ta_Ex "java/lang/IllegalStateException" x t ∧ okC he dp co li op wd tl lc fo sf lf nf ∧ sh_I (dC, dI) vcl cI cJ (gsC a he dp co li op wd tl lc fo sf lf nf) t.heap)))
def rm_En_call : Room := { frames := 9, cells := 1, slots := 6, locals := 175 }
set_option maxHeartbeats 4000000 in
set_option maxRecDepth 100000 in
theorem c_En_call (l : Launch) (hfl : l.flags = pinnedFlags ++ [noTraceFlag]) (dC : Nat → ClassId) (dI : Nat → Nat → Nat) (cI cJ : ClassId) (a : Nat → Nat) (sz : Nat) (he dp co li op wd tl lc fo : Int) (sf lf nf : Nat → Int32) (x1 : Int32) (hok : okC he dp co li op wd tl lc fo sf lf nf) (hp0 : 0 ≤ x1.toInt) (hp1 : x1.toInt ≤ 65535) : tz_Met l ⟨"StoryMachine$Engine", "call", "(I)V"⟩ tw_tbl rm_En_call (tzP (dC, dI) vcl cI cJ (gsC a he dp co li op wd tl lc fo sf lf nf) a (adC a) [.ref (a 5), .int x1] sz) (tq_Q (q_En_call dC dI cI cJ a he dp co li op wd tl lc fo sf lf nf x1) (ga (adC a) sz)) 0 0 1 6 (ga (adC a) sz) := by
  refine tz_ofW (cc := prog_4_method_15_code) (maxL := 6) (ret := none) (by decide) (tx_isM mw_872) ?_
  intro p e s m args below meth c s₁ B hml hv
  obtain ⟨rfl, hsz, hI0, hK, hst0⟩ := hv
  have hx := B.exec
  have hb := B.bytes
  have hr := B.returns
  have hts := atoms_spec (ws := tw_tbl) B.pre
  have hown : s.vm.findClass "StoryMachine$Engine" = some m.cls := findClass_of_methodNamed B.named
  have hlocks := B.notSynchronized
  subst hsz
  have hst := fun (H : Heap) (locs : List Loc) (hS : va_S (ga (adC a) s.heap.size) s.heap H locs) (U : State) (hU : U.heap = H) (hW : s.WarmedH U.vm) => zS_all adC_map hI0 hst0 hS hU hW
  have hAC : ∀ q ∈ adC a, ga (adC a) s.heap.size q := fun q h => Or.inl h
  have hA0 : ∀ q, s.heap.size ≤ q → ga (adC a) s.heap.size q := fun q h => Or.inr h
  have hI : sI (dC, dI) vcl cI cJ (gsC a he dp co li op wd tl lc fo sf lf nf) (ga (adC a) s.heap.size) s.heap s.heap [] := ⟨hI0, va_S.rf⟩
  clear hI0 hst0
  have hl := lv_entry ([.ref (a 5), .int x1]) (n := 6) (Nat.le_of_ble_eq_true rfl)
  rw [lg_entry_eq]
  generalize (lg_sl ([.ref (a 5), .int x1]) ++ List.replicate (6 - (lg_sl ([.ref (a 5), .int x1])).length) Slot.unset).toArray = ls at hl ⊢
  have hl : lv_has ls 6 [(0, .ref (a 5)), (1, .int x1)] := hl
  generalize hZ : tz_MQ below (tq_Q (q_En_call dC dI cI cJ a he dp co li op wd tl lc fo sf lf nf x1) (ga (adC a) s.heap.size)) ([.ref (a 5), .int x1] : List Value).toArray s 0 0 1 6 (ga (adC a) s.heap.size) = Z
  obtain ⟨A, hAe⟩ : ∃ A, A = ga (adC a) s.heap.size := ⟨_, rfl⟩
  rw [← hAe] at hst hAC hA0 hI hZ
  refine sv_start hI (fun H locs hI => ?_)
  obtain ⟨⟨o1, o2⟩, ⟨o3, o4⟩, ⟨o5, o6⟩, ⟨o7, o8⟩, ⟨o9, o10⟩, ⟨o11, o12⟩, ⟨o13, o14⟩, ⟨o15, o16⟩, ⟨o17, o18⟩, o19, -, -⟩ := id hok
  have gx1 := sn_rng x1
  have j61 : ∀ (n : Nat) (H : Heap) (locs : List Loc) (ls : Array Slot) (v61_2 v61_3 v61_4 : Int32), sI (dC, dI) vcl cI cJ (gsC a he dp co li op wd tl lc fo sf lf nf) A s.heap H locs → okC he dp co li op wd tl lc fo sf lf nf → 3 ≤ v61_2.toInt → v61_2.toInt ≤ 512 → 0 ≤ v61_3.toInt → v61_3.toInt ≤ 15 → 0 ≤ v61_4.toInt → v61_4.toInt ≤ 15 → dp ≤ 9 → 1 ≤ x1.toInt → lv_has ls 6 [(0, .ref (a 5)), (1, .int x1), (2, .int v61_2), (3, .int v61_3), (4, .int v61_4)] → 15 - v61_4.toInt < (n : Int) → W p l e (headSpec tw_tbl rm_En_call).room s m ([.ref (a 5), .int x1] : List Value).toArray below meth c H locs 0 0 Z (F0 m 61 ls []) := by
    intro n
    induction n with
    | zero => intro H locs ls v61_2 v61_3 v61_4 hI hok g61_0 g61_1 g61_2 g61_3 g61_4 g61_5 g61_6 g61_7 hl hme; exfalso; obtain ⟨⟨o20, o21⟩, ⟨o22, o23⟩, ⟨o24, o25⟩, ⟨o26, o27⟩, ⟨o28, o29⟩, ⟨o30, o31⟩, ⟨o32, o33⟩, ⟨o34, o35⟩, ⟨o36, o37⟩, o38, -, -⟩ := id hok; omega
    | succ n ih =>
      intro H locs ls v61_2 v61_3 v61_4 hI hok g61_0 g61_1 g61_2 g61_3 g61_4 g61_5 g61_6 g61_7 hl hme
      obtain ⟨⟨o39, o40⟩, ⟨o41, o42⟩, ⟨o43, o44⟩, ⟨o45, o46⟩, ⟨o47, o48⟩, ⟨o49, o50⟩, ⟨o51, o52⟩, ⟨o53, o54⟩, ⟨o55, o56⟩, o57, -, -⟩ := id hok
      refine lv_iload hx hb d_En_call_61 (lv_at hl 4 rfl) ?_
      refine lv_iload_n hx hb d_En_call_63 rfl (lv_at hl 3 rfl) ?_
      refine sn_icmp_ge (tgt := 124) hx hb d_En_call_64 (by decide) (fun b58 => ?_) (fun b58 => ?_)
      · refine lv_aload_n hx hb d_En_call_124 rfl (lv_at hl 0 rfl) ?_
        refine sv_getr (C := "StoryMachine$Engine") (T := T_En) (N := 15) hx hb hts in_En hown hK hI 5 kC_5 rfl 2 (by decide) (hts _ mw_263) rfl d_En_call_125 ?_
        refine lv_aload_n hx hb d_En_call_128 rfl (lv_at hl 0 rfl) ?_
        refine sv_getr (C := "StoryMachine$Engine") (T := T_En) (N := 15) hx hb hts in_En hown hK hI 5 kC_5 rfl 9 (by decide) (hts _ mw_270) rfl d_En_call_129 ?_
        refine lv_iload_n hx hb d_En_call_132 rfl (lv_at hl 3 rfl) ?_
        refine lv_aload_n hx hb d_En_call_133 rfl (lv_at hl 0 rfl) ?_
        refine sv_get (C := "StoryMachine$Engine") (T := T_En) (N := 15) hx hb hts in_En hown hK hI 5 kC_5 rfl 13 (by decide) (hts _ mw_277) rfl d_En_call_134 (fun z59 hz59a hz59b => ?_)
        refine lv_aload_n hx hb d_En_call_137 rfl (lv_at hl 0 rfl) ?_
        refine sv_getr (C := "StoryMachine$Engine") (T := T_En) (N := 15) hx hb hts in_En hown hK hI 5 kC_5 rfl 7 (by decide) (hts _ mw_268) rfl d_En_call_138 ?_
        refine sv_get (C := "StoryMachine$Instruction") (T := T_In) (N := 11) hx hb hts in_In hown hK hI 19 kC_19 rfl 7 (by decide) (hts _ mw_232) rfl d_En_call_141 (fun z60 hz60a hz60b => ?_)
        refine tz_call (A1 := ga (adC a) H.size) (tz_runV (C := "StoryMachine$Routines") (As := [.ref (a 21), .int v61_3, .int z59, .int z60]) (rest := []) ⟨hx, hb, hml, hown, hts⟩ (c_Ro_openn l hfl dC dI cI cJ a H.size he dp co li op wd tl lc fo sf lf nf v61_3 z59 z60 hok (by omega) (by omega)) (tx_cb (n := 4) hts rfl rfl ⟨Nat.le_of_ble_eq_true rfl, Nat.le_of_ble_eq_true rfl⟩ (tx_code.of (hts _ mw_881)) (hts _ mw_4) (by decide +kernel) (hts _ mw_878)) (hts _ mw_879) (hts _ mw_880) ⟨tz_blind, sv_recv (q0 := 3) hts in_Ro hK hI kC_3 rfl, fun U hU hW => ⟨rfl, by rw [hU], by rw [hU]; exact hI.1, va_K.moved hW.alike hK, hst _ _ hI.2 U hU hW⟩⟩ rfl rfl hl.1 rfl (lv_room (Nat.le_of_ble_eq_true rfl)) d_En_call_144 ⟨Nat.le_of_ble_eq_true rfl, Nat.le_of_ble_eq_true rfl⟩) hI.2 (fun q _ h => ga_sub hAC hA0 hI.2 q h) (ga_sub hAC hA0 hI.2) (fun v t H1 locs1 ht hWt hpost _ _ hS => ?_) (fun x t H1 locs1 ht hWt hpost _ _ hS => ?_)
        · rcases hpost.1 _ rfl with ⟨t_dp61, f_nf62, hv, c63, c63_0, c63_1, hI1⟩
          cases hv
          have hI : sI (dC, dI) vcl cI cJ (gsC a he t_dp61 co li op wd tl lc fo sf lf f_nf62) A s.heap H1 locs1 := ⟨by rw [← ht]; exact hI1, hS⟩
          obtain ⟨-, ⟨o64, o65⟩, -, -, -, -, -, -, -, -, -, -⟩ := id c63
          clear hpost hI1 hS ht hWt
          revert hI; generalize H1 = H; generalize locs1 = locs; intro hI
          refine lv_aload_n hx hb d_En_call_147 rfl (lv_at hl 0 rfl) ?_
          refine lv_iload_n hx hb d_En_call_148 rfl (lv_at hl 2 rfl) ?_
          refine sv_put (C := "StoryMachine$Engine") (T := T_En) (N := 15) (ty := .int) hx hb hts in_En t_En tk_En nm_En hown hK (sh_in adC_map hAC) hI 5 kC_5 rfl 13 (by decide) (hts _ mw_277) rfl (by decide +kernel) rfl rfl (Nat.le_of_ble_eq_true rfl) (by omega) (by omega) pC_5_13 d_En_call_149 (fun H locs hI => ?_)
          subst hZ
          exact tz_ret (W.vret hx hb hr (fun t ht hW => ⟨⟨fun v9 hv9 => by cases hv9; exact (⟨he, t_dp61, f_nf62, rfl, c63, by rw [ht]; exact hI.1⟩), fun x9 hx9 => (by cases hx9)⟩, hI.2.F ht⟩) hI.2.2.2 d_En_call_152)
        · rcases hpost.2 _ rfl with ⟨hex, c66, c66_0, hI1⟩
          omega
      · refine lv_aload_n hx hb d_En_call_67 rfl (lv_at hl 0 rfl) ?_
        refine sv_getr (C := "StoryMachine$Engine") (T := T_En) (N := 15) hx hb hts in_En hown hK hI 5 kC_5 rfl 0 (by decide) (hts _ mw_261) rfl d_En_call_68 ?_
        refine lv_iload_n hx hb d_En_call_71 rfl (lv_at hl 2 rfl) ?_
        refine tz_call (A1 := ga (adC a) H.size) (tz_runV (C := "StoryMachine$Memory") (As := [.int v61_2]) (rest := []) ⟨hx, hb, hml, hown, hts⟩ (c_Me_wordAt l hfl dC dI cI cJ a H.size he dp co li op wd tl lc fo sf lf nf v61_2 hok) (tx_cb (n := 1) hts rfl rfl ⟨Nat.le_of_ble_eq_true rfl, Nat.le_of_ble_eq_true rfl⟩ (tx_code.of (hts _ mw_440)) (hts _ mw_2) (by decide +kernel) (hts _ mw_815)) (hts _ mw_438) (hts _ mw_439) ⟨tz_blind, sv_recv (q0 := 1) hts in_Me hK hI kC_1 rfl, fun U hU hW => ⟨rfl, by rw [hU], by rw [hU]; exact hI.1, va_K.moved hW.alike hK, hst _ _ hI.2 U hU hW⟩⟩ rfl rfl hl.1 rfl (lv_room (Nat.le_of_ble_eq_true rfl)) d_En_call_72 ⟨Nat.le_of_ble_eq_true rfl, Nat.le_of_ble_eq_true rfl⟩) hI.2 (fun q _ h => ga_sub hAC hA0 hI.2 q h) (ga_sub hAC hA0 hI.2) (fun v t H1 locs1 ht hWt hpost _ _ hS => ?_) (fun x t H1 locs1 ht hWt hpost _ _ hS => ?_)
        · rcases hpost.1 _ rfl with ⟨z67, hv, c68, c68_0, c68_1, c68_2, c68_3, hI1⟩
          cases hv
          have hI : sI (dC, dI) vcl cI cJ (gsC a he dp co li op wd tl lc fo sf lf nf) A s.heap H1 locs1 := ⟨by rw [← ht]; exact hI1, hS⟩
          clear hpost hI1 hS ht hWt
          revert hI; generalize H1 = H; generalize locs1 = locs; intro hI
          refine lv_istore (lv' := [(5, .int z67), (0, .ref (a 5)), (1, .int x1), (2, .int v61_2), (3, .int v61_3), (4, .int v61_4)]) hx hb d_En_call_75 hl (by decide) rfl (fun ls hl => ?_)
          refine lv_aload_n hx hb d_En_call_77 rfl (lv_at hl 1 rfl) ?_
          refine sv_getr (C := "StoryMachine$Engine") (T := T_En) (N := 15) hx hb hts in_En hown hK hI 5 kC_5 rfl 9 (by decide) (hts _ mw_270) rfl d_En_call_78 ?_
          refine lv_iload hx hb d_En_call_81 (lv_at hl 5 rfl) ?_
          refine lv_iload hx hb d_En_call_83 (lv_at hl 5 rfl) ?_
          refine sn_iconst hx hb d_En_call_85 (by decide) (fun z69 hz69 => ?_)
          refine sn_iadd hx hb d_En_call_86 (by omega) (by omega) (fun z70 hz70 => ?_)
          refine lv_aload_n hx hb d_En_call_87 rfl (lv_at hl 1 rfl) ?_
          refine sv_getr (C := "StoryMachine$Engine") (T := T_En) (N := 15) hx hb hts in_En hown hK hI 5 kC_5 rfl 7 (by decide) (hts _ mw_268) rfl d_En_call_88 ?_
          refine sv_gete (C := "StoryMachine$Instruction") (T := T_In) (N := 11) hx hb hts in_In hown hK hI 19 kC_19 rfl 3 (by decide) (hts _ mw_224) rfl d_En_call_91 (fun z71 hz71 => ?_)
          refine sn_icmp_ge (tgt := 112) hx hb d_En_call_94 (by decide) (fun b72 => ?_) (fun b72 => ?_)
          · refine lv_iload hx hb d_En_call_112 (lv_at hl 0 rfl) ?_
            refine sv_iastr hx hb hK (sh_in adC_map hAC) hI 21 kC_21 (by omega) (by omega) (by omega) (by omega) pC_21 d_En_call_114 (fun H locs hI => ?_)
            refine sn_iinc (k := 3) hx hb d_En_call_115 hl rfl (by decide) (by decide) (by omega) (by omega) (fun ls z73 hz73 hl => ?_)
            have hl : lv_has ls 6 [(2, .int z73), (5, .int z67), (0, .ref (a 5)), (1, .int x1), (3, .int v61_3), (4, .int v61_4)] := hl
            refine sn_iinc (k := 5) hx hb d_En_call_118 hl rfl (by decide) (by decide) (by omega) (by omega) (fun ls z74 hz74 hl => ?_)
            have hl : lv_has ls 6 [(4, .int z74), (2, .int z73), (5, .int z67), (0, .ref (a 5)), (1, .int x1), (3, .int v61_3)] := hl
            refine lv_goto (tgt := 61) hx hb d_En_call_121 (by decide) ?_
            exact ih _ _ _ z73 v61_3 z74 hI c68 (by omega) (by omega) (by omega) (by omega) (by omega) (by omega) (by omega) (by omega) (lv_sub hl [3, 4, 1, 5, 0] rfl) (by omega)
          · refine lv_aload_n hx hb d_En_call_97 rfl (lv_at hl 1 rfl) ?_
            refine sv_getr (C := "StoryMachine$Engine") (T := T_En) (N := 15) hx hb hts in_En hown hK hI 5 kC_5 rfl 7 (by decide) (hts _ mw_268) rfl d_En_call_98 ?_
            refine sv_getr (C := "StoryMachine$Instruction") (T := T_In) (N := 11) hx hb hts in_In hown hK hI 19 kC_19 rfl 2 (by decide) (hts _ mw_222) rfl d_En_call_101 ?_
            refine lv_iload hx hb d_En_call_104 (lv_at hl 5 rfl) ?_
            refine sn_iconst hx hb d_En_call_106 (by decide) (fun z75 hz75 => ?_)
            refine sn_iadd hx hb d_En_call_107 (by omega) (by omega) (fun z76 hz76 => ?_)
            refine sv_ialdr hx hb hK hI 25 kC_25 (by omega) (by omega) d_En_call_108 (fun z77 hz77a hz77b => ?_)
            refine lv_goto (tgt := 114) hx hb d_En_call_109 (by decide) ?_
            refine sv_iastr hx hb hK (sh_in adC_map hAC) hI 21 kC_21 (by omega) (by omega) (by omega) (by omega) pC_21 d_En_call_114 (fun H locs hI => ?_)
            refine sn_iinc (k := 3) hx hb d_En_call_115 hl rfl (by decide) (by decide) (by omega) (by omega) (fun ls z78 hz78 hl => ?_)
            have hl : lv_has ls 6 [(2, .int z78), (5, .int z67), (0, .ref (a 5)), (1, .int x1), (3, .int v61_3), (4, .int v61_4)] := hl
            refine sn_iinc (k := 5) hx hb d_En_call_118 hl rfl (by decide) (by decide) (by omega) (by omega) (fun ls z79 hz79 hl => ?_)
            have hl : lv_has ls 6 [(4, .int z79), (2, .int z78), (5, .int z67), (0, .ref (a 5)), (1, .int x1), (3, .int v61_3)] := hl
            refine lv_goto (tgt := 61) hx hb d_En_call_121 (by decide) ?_
            exact ih _ _ _ z78 v61_3 z79 hI c68 (by omega) (by omega) (by omega) (by omega) (by omega) (by omega) (by omega) (by omega) (lv_sub hl [3, 4, 1, 5, 0] rfl) (by omega)
        · rcases hpost.2 _ rfl with ⟨hex, c80, hI1⟩
          have hI : sI (dC, dI) vcl cI cJ (gsC a he dp co li op wd tl lc fo sf lf nf) A s.heap H1 locs1 := ⟨by rw [← ht]; exact hI1, hS⟩
          refine tz_widen (k := 1) (n := 6) (Nat.le_of_ble_eq_true rfl) (Nat.le_of_ble_eq_true rfl) ?_
          subst hZ
          exact tz_leave (tx_noH B (hts _ mw_872) _) (fun t9 ht9 hW9 => ⟨⟨fun v9 hv9 => (by cases hv9), fun x9 hx9 => by cases hx9; exact (Or.inl ⟨ta_exm hex ht ht9 hWt hW9, c80, by rw [ht9]; exact hI.1⟩)⟩, hI.2.F ht9⟩) hI.2.2.2 hlocks
  refine lv_iload_n hx hb d_En_call_0 rfl (lv_at hl 1 rfl) ?_
  refine sn_if_ne (tgt := 21) hx hb d_En_call_1 (by decide) (fun b81 => ?_) (fun b81 => ?_)
  · refine lv_aload_n hx hb d_En_call_21 rfl (lv_at hl 0 rfl) ?_
    refine sv_getr (C := "StoryMachine$Engine") (T := T_En) (N := 15) hx hb hts in_En hown hK hI 5 kC_5 rfl 2 (by decide) (hts _ mw_263) rfl d_En_call_22 ?_
    refine tz_call (A1 := ga (adC a) H.size) (tz_runV (C := "StoryMachine$Routines") (As := []) (rest := []) ⟨hx, hb, hml, hown, hts⟩ (c_Ro_demandRoom l hfl dC dI cI cJ a H.size he dp co li op wd tl lc fo sf lf nf  hok) (tx_cb (n := 0) hts rfl rfl ⟨Nat.le_of_ble_eq_true rfl, Nat.le_of_ble_eq_true rfl⟩ (tx_code.of (hts _ mw_876)) (hts _ mw_4) (by decide +kernel) (hts _ mw_873)) (hts _ mw_874) (hts _ mw_875) ⟨tz_blind, sv_recv (q0 := 3) hts in_Ro hK hI kC_3 rfl, fun U hU hW => ⟨rfl, by rw [hU], by rw [hU]; exact hI.1, va_K.moved hW.alike hK, hst _ _ hI.2 U hU hW⟩⟩ rfl rfl hl.1 rfl (lv_room (Nat.le_of_ble_eq_true rfl)) d_En_call_25 ⟨Nat.le_of_ble_eq_true rfl, Nat.le_of_ble_eq_true rfl⟩) hI.2 (fun q _ h => ga_sub hAC hA0 hI.2 q h) (ga_sub hAC hA0 hI.2) (fun v t H1 locs1 ht hWt hpost _ _ hS => ?_) (fun x t H1 locs1 ht hWt hpost _ _ hS => ?_)
    · rcases hpost.1 _ rfl with ⟨hv, c82, c82_0, hI1⟩
      cases hv
      have hI : sI (dC, dI) vcl cI cJ (gsC a he dp co li op wd tl lc fo sf lf nf) A s.heap H1 locs1 := ⟨by rw [← ht]; exact hI1, hS⟩
      clear hpost hI1 hS ht hWt
      revert hI; generalize H1 = H; generalize locs1 = locs; intro hI
      refine sn_iconst hx hb d_En_call_28 (by decide) (fun z83 hz83 => ?_)
      refine lv_iload_n hx hb d_En_call_29 rfl (lv_at hl 1 rfl) ?_
      refine sn_imulL (k := 2) hx hb d_En_call_30 (by omega) (by omega) (by omega) (fun z84 hz84 => ?_)
      refine lv_istore_n (lv' := [(2, .int z84), (0, .ref (a 5)), (1, .int x1)]) hx hb d_En_call_31 rfl hl (by decide) rfl (fun ls hl => ?_)
      refine lv_aload_n hx hb d_En_call_32 rfl (lv_at hl 1 rfl) ?_
      refine sv_getr (C := "StoryMachine$Engine") (T := T_En) (N := 15) hx hb hts in_En hown hK hI 5 kC_5 rfl 0 (by decide) (hts _ mw_261) rfl d_En_call_33 ?_
      refine lv_iload_n hx hb d_En_call_36 rfl (lv_at hl 0 rfl) ?_
      refine tz_call (A1 := ga (adC a) H.size) (tz_runV (C := "StoryMachine$Memory") (As := [.int z84]) (rest := []) ⟨hx, hb, hml, hown, hts⟩ (c_Me_byteAt l hfl dC dI cI cJ a H.size he dp co li op wd tl lc fo sf lf nf z84 c82) (tx_cb (n := 1) hts rfl rfl ⟨Nat.le_of_ble_eq_true rfl, Nat.le_of_ble_eq_true rfl⟩ (tx_code.of (hts _ mw_511)) (hts _ mw_2) (by decide +kernel) (hts _ mw_790)) (hts _ mw_509) (hts _ mw_510) ⟨tz_blind, sv_recv (q0 := 1) hts in_Me hK hI kC_1 rfl, fun U hU hW => ⟨rfl, by rw [hU], by rw [hU]; exact hI.1, va_K.moved hW.alike hK, hst _ _ hI.2 U hU hW⟩⟩ rfl rfl hl.1 rfl (lv_room (Nat.le_of_ble_eq_true rfl)) d_En_call_37 ⟨Nat.le_of_ble_eq_true rfl, Nat.le_of_ble_eq_true rfl⟩) hI.2 (fun q _ h => ga_sub hAC hA0 hI.2 q h) (ga_sub hAC hA0 hI.2) (fun v t H1 locs1 ht hWt hpost _ _ hS => ?_) (fun x t H1 locs1 ht hWt hpost _ _ hS => ?_)
      · rcases hpost.1 _ rfl with ⟨z85, hv, c86, c86_0, c86_1, c86_2, c86_3, hI1⟩
        cases hv
        have hI : sI (dC, dI) vcl cI cJ (gsC a he dp co li op wd tl lc fo sf lf nf) A s.heap H1 locs1 := ⟨by rw [← ht]; exact hI1, hS⟩
        clear hpost hI1 hS ht hWt
        revert hI; generalize H1 = H; generalize locs1 = locs; intro hI
        refine lv_istore_n (lv' := [(3, .int z85), (2, .int z84), (0, .ref (a 5)), (1, .int x1)]) hx hb d_En_call_40 rfl hl (by decide) rfl (fun ls hl => ?_)
        refine lv_iload_n hx hb d_En_call_41 rfl (lv_at hl 0 rfl) ?_
        refine sn_bipush hx hb d_En_call_42 (by decide) (fun z87 hz87 => ?_)
        refine sn_icmp_le (tgt := 55) hx hb d_En_call_44 (by decide) (fun b88 => ?_) (fun b88 => ?_)
        · refine sn_iinc (k := 1) hx hb d_En_call_55 hl rfl (by decide) (by decide) (by omega) (by omega) (fun ls z89 hz89 hl => ?_)
          have hl : lv_has ls 6 [(2, .int z89), (3, .int z85), (0, .ref (a 5)), (1, .int x1)] := hl
          refine sn_iconst hx hb d_En_call_58 (by decide) (fun z90 hz90 => ?_)
          refine lv_istore (lv' := [(4, .int z90), (2, .int z89), (3, .int z85), (0, .ref (a 5)), (1, .int x1)]) hx hb d_En_call_59 hl (by decide) rfl (fun ls hl => ?_)
          exact j61 16 _ _ _ z89 z85 z90 hI c86 (by omega) (by omega) (by omega) (by omega) (by omega) (by omega) (by omega) (by omega) (lv_sub hl [3, 4, 1, 2, 0] rfl) (by omega)
        · refine W.widen (k := 0) (n := 0) (Nat.le_of_ble_eq_true rfl) (Nat.le_of_ble_eq_true rfl) ?_
          subst hZ
          exact tz_thrown (tth_En_IllegalArgumentException hx hb hfl hown hts (fun U hU hW => (hst _ _ hI.2 U hU hW).1) (by rw [hml]; exact hl.1) d_En_call_47 d_En_call_50 d_En_call_51 d_En_call_54 (tx_noH B (hts _ mw_872) _) (Nat.le_of_ble_eq_true rfl) (Nat.le_of_ble_eq_true rfl) (Nat.le_of_ble_eq_true rfl) (Nat.le_of_ble_eq_true rfl) (fun t ce hW hz hk hce hcl hvm => ⟨⟨⟨fun v9 hv9 => (by cases hv9), fun x9 hx9 => by cases hx9; exact (Or.inl ⟨⟨ce, hce, hcl, hvm⟩, c86, sh_kept hI.1 hk⟩)⟩, ta_thrown hI.2 hz hk⟩, _, rfl⟩) hI.2.2.2 hlocks)
      · rcases hpost.2 _ rfl with ⟨hex, c91, hI1⟩
        have hI : sI (dC, dI) vcl cI cJ (gsC a he dp co li op wd tl lc fo sf lf nf) A s.heap H1 locs1 := ⟨by rw [← ht]; exact hI1, hS⟩
        refine tz_widen (k := 1) (n := 6) (Nat.le_of_ble_eq_true rfl) (Nat.le_of_ble_eq_true rfl) ?_
        subst hZ
        exact tz_leave (tx_noH B (hts _ mw_872) _) (fun t9 ht9 hW9 => ⟨⟨fun v9 hv9 => (by cases hv9), fun x9 hx9 => by cases hx9; exact (Or.inl ⟨ta_exm hex ht ht9 hWt hW9, c91, by rw [ht9]; exact hI.1⟩)⟩, hI.2.F ht9⟩) hI.2.2.2 hlocks
    · rcases hpost.2 _ rfl with ⟨hex, c92, c92_0, hI1⟩
      have hI : sI (dC, dI) vcl cI cJ (gsC a he dp co li op wd tl lc fo sf lf nf) A s.heap H1 locs1 := ⟨by rw [← ht]; exact hI1, hS⟩
      refine tz_widen (k := 1) (n := 6) (Nat.le_of_ble_eq_true rfl) (Nat.le_of_ble_eq_true rfl) ?_
      subst hZ
      exact tz_leave (tx_noH B (hts _ mw_872) _) (fun t9 ht9 hW9 => ⟨⟨fun v9 hv9 => (by cases hv9), fun x9 hx9 => by cases hx9; exact (Or.inr (⟨ta_exm hex ht ht9 hWt hW9, c92, by rw [ht9]; exact hI.1⟩))⟩, hI.2.F ht9⟩) hI.2.2.2 hlocks
  · refine lv_aload_n hx hb d_En_call_4 rfl (lv_at hl 0 rfl) ?_
    refine sv_getr (C := "StoryMachine$Engine") (T := T_En) (N := 15) hx hb hts in_En hown hK hI 5 kC_5 rfl 4 (by decide) (hts _ mw_265) rfl d_En_call_5 ?_
    refine lv_aload_n hx hb d_En_call_8 rfl (lv_at hl 0 rfl) ?_
    refine sv_getr (C := "StoryMachine$Engine") (T := T_En) (N := 15) hx hb hts in_En hown hK hI 5 kC_5 rfl 7 (by decide) (hts _ mw_268) rfl d_En_call_9 ?_
    refine sv_get (C := "StoryMachine$Instruction") (T := T_In) (N := 11) hx hb hts in_In hown hK hI 19 kC_19 rfl 7 (by decide) (hts _ mw_232) rfl d_En_call_12 (fun z93 hz93a hz93b => ?_)
    refine sn_iconst hx hb d_En_call_15 (by decide) (fun z94 hz94 => ?_)
    refine sn_iconst hx hb d_En_call_16 (by decide) (fun z95 hz95 => ?_)
    refine tz_call (A1 := ga (adC a) H.size) (tz_runV (C := "StoryMachine$Variables") (As := [.int z93, .int z94, .int z95]) (rest := []) ⟨hx, hb, hml, hown, hts⟩ (c_Va_write l hfl dC dI cI cJ a H.size he dp co li op wd tl lc fo sf lf nf z93 z94 z95 hok) (tx_cb (n := 3) hts rfl rfl ⟨Nat.le_of_ble_eq_true rfl, Nat.le_of_ble_eq_true rfl⟩ (tx_code.of (hts _ mw_619)) (hts _ mw_8) (by decide +kernel) (hts _ mw_616)) (hts _ mw_617) (hts _ mw_618) ⟨tz_blind, sv_recv (q0 := 16) hts in_Va hK hI kC_16 rfl, fun U hU hW => ⟨rfl, by rw [hU], by rw [hU]; exact hI.1, va_K.moved hW.alike hK, hst _ _ hI.2 U hU hW⟩⟩ rfl rfl hl.1 rfl (lv_room (Nat.le_of_ble_eq_true rfl)) d_En_call_17 ⟨Nat.le_of_ble_eq_true rfl, Nat.le_of_ble_eq_true rfl⟩) hI.2 (fun q _ h => ga_sub hAC hA0 hI.2 q h) (ga_sub hAC hA0 hI.2) (fun v t H1 locs1 ht hWt hpost _ _ hS => ?_) (fun x t H1 locs1 ht hWt hpost _ _ hS => ?_)
    · rcases hpost.1 _ rfl with ⟨t_he96, hv, c97, c97_0, c97_1, hI1⟩
      cases hv
      have hI : sI (dC, dI) vcl cI cJ (gsC a t_he96 dp co li op wd tl lc fo sf lf nf) A s.heap H1 locs1 := ⟨by rw [← ht]; exact hI1, hS⟩
      obtain ⟨⟨o98, o99⟩, -, -, -, -, -, -, -, -, -, -, -⟩ := id c97
      clear hpost hI1 hS ht hWt
      revert hI; generalize H1 = H; generalize locs1 = locs; intro hI
      subst hZ
      exact tz_ret (W.vret hx hb hr (fun t ht hW => ⟨⟨fun v9 hv9 => by cases hv9; exact (⟨t_he96, dp, nf, rfl, c97, by rw [ht]; exact hI.1⟩), fun x9 hx9 => (by cases hx9)⟩, hI.2.F ht⟩) hI.2.2.2 d_En_call_20)
    · rcases hpost.2 _ rfl with ⟨hex, c100, hI1⟩ | ⟨hex, c101, c101_0, c101_1, hI1⟩
      · have hI : sI (dC, dI) vcl cI cJ (gsC a he dp co li op wd tl lc fo sf lf nf) A s.heap H1 locs1 := ⟨by rw [← ht]; exact hI1, hS⟩
        refine tz_widen (k := 1) (n := 6) (Nat.le_of_ble_eq_true rfl) (Nat.le_of_ble_eq_true rfl) ?_
        subst hZ
        exact tz_leave (tx_noH B (hts _ mw_872) _) (fun t9 ht9 hW9 => ⟨⟨fun v9 hv9 => (by cases hv9), fun x9 hx9 => by cases hx9; exact (Or.inl ⟨ta_exm hex ht ht9 hWt hW9, c100, by rw [ht9]; exact hI.1⟩)⟩, hI.2.F ht9⟩) hI.2.2.2 hlocks
      · have hI : sI (dC, dI) vcl cI cJ (gsC a he dp co li op wd tl lc fo sf lf nf) A s.heap H1 locs1 := ⟨by rw [← ht]; exact hI1, hS⟩
        refine tz_widen (k := 1) (n := 6) (Nat.le_of_ble_eq_true rfl) (Nat.le_of_ble_eq_true rfl) ?_
        subst hZ
        exact tz_leave (tx_noH B (hts _ mw_872) _) (fun t9 ht9 hW9 => ⟨⟨fun v9 hv9 => (by cases hv9), fun x9 hx9 => by cases hx9; exact (Or.inr (⟨ta_exm hex ht ht9 hWt hW9, c101, by rw [ht9]; exact hI.1⟩))⟩, hI.2.F ht9⟩) hI.2.2.2 hlocks
