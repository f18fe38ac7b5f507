abbrev q_Mo_showText (dC : Nat → ClassId) (dI : Nat → Nat → Nat) (cI cJ : ClassId) (a : Nat → Nat) (th tr dp zi co sh lt ts : Int) (mf : Nat → Int32) (x1 : Int32) : Outcome → State → Prop := fun o t => (∀ v, o = .returned v → ((∃ (z : Int32) (tr_ sh_ : Int), v = some (.int z) ∧ okM th tr_ dp zi co sh_ lt ts mf ∧ ((-2147483648) ≤ z.toInt) ∧ (z.toInt ≤ 2147483647) ∧ (1 ≤ tr_) ∧ (sh_ ≤ sh + 1600) ∧ sh_I (dC, dI) vcl cI cJ (gsM a th tr_ dp zi co sh_ lt ts mf) t.heap) ∨ (∃ (z : Int32) (sh_ : Int), v = some (.int z) ∧ okM th tr dp zi co sh_ lt ts mf ∧ (2 ≤ z.toInt) ∧ (z.toInt ≤ 513) ∧ (0 ≤ x1.toInt) ∧ (x1.toInt ≤ 511) ∧ (tr ≤ 0) ∧ (sh_ ≤ sh + 1600) ∧ sh_I (dC, dI) vcl cI cJ (gsM a th tr dp zi co sh_ lt ts mf) t.heap))) ∧ (∀ x, o = .threw x → (False))
def rm_Mo_showText : Room := { frames := 3, cells := 0, slots := 0, locals := 66 }
set_option maxHeartbeats 4000000 in
set_option maxRecDepth 100000 in
theorem c_Mo_showText (l : Launch) (hfl : l.flags = pinnedFlags ++ [noTraceFlag]) (dC : Nat → ClassId) (dI : Nat → Nat → Nat) (cI cJ : ClassId) (a : Nat → Nat) (sz : Nat) (th tr dp zi co sh lt ts : Int) (mf : Nat → Int32) (x1 : Int32) (hok : okM th tr dp zi co sh lt ts mf) (hp0 : sh ≤ 1999998400) : tz_Met l ⟨"StoryMachineModel", "showText", "(I)I"⟩ tw_tbl rm_Mo_showText (tzP (dC, dI) vcl cI cJ (gsM a th tr dp zi co sh lt ts mf) a (adM a) [.ref (a 0), .int x1] sz) (tq_Q (q_Mo_showText dC dI cI cJ a th tr dp zi co sh lt ts mf x1) (ga (adM a) sz)) 0 0 0 0 (ga (adM a) sz) := by
  refine tz_ofW (cc := prog_13_method_20_code) (maxL := 5) (ret := (some .int)) (by decide) (tx_isM mw_1401) ?_
  intro p e s m args below meth c s₁ B hml hv
  obtain ⟨rfl, hsz, hI0, hK, hst0⟩ := hv
  have hx := B.exec
  have hb := B.bytes
  have hr := B.returns
  have hts := atoms_spec (ws := tw_tbl) B.pre
  have hown : s.vm.findClass "StoryMachineModel" = some m.cls := findClass_of_methodNamed B.named
  have hlocks := B.notSynchronized
  subst hsz
  have hst := fun (H : Heap) (locs : List Loc) (hS : va_S (ga (adM a) s.heap.size) s.heap H locs) (U : State) (hU : U.heap = H) (hW : s.WarmedH U.vm) => zS_all adM_map hI0 hst0 hS hU hW
  have hAC : ∀ q ∈ adM a, ga (adM a) s.heap.size q := fun q h => Or.inl h
  have hA0 : ∀ q, s.heap.size ≤ q → ga (adM a) s.heap.size q := fun q h => Or.inr h
  have hI : sI (dC, dI) vcl cI cJ (gsM a th tr dp zi co sh lt ts mf) (ga (adM a) s.heap.size) s.heap s.heap [] := ⟨hI0, va_S.rf⟩
  clear hI0 hst0
  have hl := lv_entry ([.ref (a 0), .int x1]) (n := 5) (Nat.le_of_ble_eq_true rfl)
  rw [lg_entry_eq]
  generalize (lg_sl ([.ref (a 0), .int x1]) ++ List.replicate (5 - (lg_sl ([.ref (a 0), .int x1])).length) Slot.unset).toArray = ls at hl ⊢
  have hl : lv_has ls 5 [(0, .ref (a 0)), (1, .int x1)] := hl
  generalize hZ : tz_MQ below (tq_Q (q_Mo_showText dC dI cI cJ a th tr dp zi co sh lt ts mf x1) (ga (adM a) s.heap.size)) ([.ref (a 0), .int x1] : List Value).toArray s 0 0 0 0 (ga (adM a) s.heap.size) = Z
  obtain ⟨A, hAe⟩ : ∃ A, A = ga (adM a) s.heap.size := ⟨_, rfl⟩
  rw [← hAe] at hst hAC hA0 hI hZ
  refine sv_start hI (fun H locs hI => ?_)
  obtain ⟨⟨o1, o2⟩, ⟨o3, o4⟩, ⟨o5, o6⟩, ⟨o7, o8⟩, ⟨o9, o10⟩, ⟨o11, o12⟩, ⟨o13, o14⟩, ⟨o15, o16⟩, -⟩ := id hok
  have gx1 := sn_rng x1
  have j14p : ∀ (H : Heap) (locs : List Loc) (ls : Array Slot) (v14p_2 v14p_3 v14p_4 : Int32) (t14p_tr t14p_sh : Int), sI (dC, dI) vcl cI cJ (gsM a th t14p_tr dp zi co t14p_sh lt ts mf) A s.heap H locs → okM th t14p_tr dp zi co t14p_sh lt ts mf → (-2147483648) ≤ v14p_2.toInt → v14p_2.toInt ≤ 2147483647 → 0 ≤ v14p_3.toInt → v14p_3.toInt ≤ 1 → 0 ≤ v14p_4.toInt → v14p_4.toInt ≤ 65280 → 1 ≤ t14p_tr → t14p_tr ≤ 4 → tr ≤ 0 → t14p_sh ≤ sh + 1600 → lv_has ls 5 [(0, .ref (a 0)), (1, .int x1), (2, .int v14p_2), (3, .int v14p_3), (4, .int v14p_4)] → W p l e (headSpec tw_tbl rm_Mo_showText).room s m ([.ref (a 0), .int x1] : List Value).toArray below meth c H locs 0 0 Z (F0 m 14 ls []) := by
    intro H locs ls v14p_2 v14p_3 v14p_4 t14p_tr t14p_sh hI hok g14_0 g14_1 g14_2 g14_3 g14_4 g14_5 g14_6 g14_7 g14_8 g14_9 hl
    obtain ⟨⟨o17, o18⟩, ⟨o19, o20⟩, ⟨o21, o22⟩, ⟨o23, o24⟩, ⟨o25, o26⟩, ⟨o27, o28⟩, ⟨o29, o30⟩, ⟨o31, o32⟩, -⟩ := id hok
    refine lv_iload_n hx hb d_Mo_showText_14 rfl (lv_at hl 3 rfl) ?_
    refine sn_if_eq (tgt := 93) hx hb d_Mo_showText_15 (by decide) (fun b33 => ?_) (fun b33 => ?_)
    · refine lv_iload_n hx hb d_Mo_showText_93 rfl (lv_at hl 2 rfl) ?_
      subst hZ
      exact tz_ret (W.iret (v := v14p_2) hx hb hr (fun t ht hW => ⟨⟨fun v9 hv9 => by cases hv9; exact (Or.inl ⟨v14p_2, t14p_tr, t14p_sh, rfl, hok, by omega, by omega, by omega, by omega, by rw [ht]; exact hI.1⟩), fun x9 hx9 => (by cases hx9)⟩, hI.2.F ht⟩) hI.2.2.2 d_Mo_showText_94)
    · refine lv_aload_n hx hb d_Mo_showText_18 rfl (lv_at hl 0 rfl) ?_
      refine sv_gete (C := "StoryMachineModel") (T := T_Mo) (N := 51) hx hb hts in_Mo hown hK hI 0 kM_0 rfl 25 (by decide) (hts _ mw_1088) rfl d_Mo_showText_19 (fun z34 hz34 => ?_)
      refine sn_if_ne (tgt := 93) hx hb d_Mo_showText_22 (by decide) (fun b35 => ?_) (fun b35 => ?_)
      · refine lv_iload_n hx hb d_Mo_showText_93 rfl (lv_at hl 2 rfl) ?_
        subst hZ
        exact tz_ret (W.iret (v := v14p_2) hx hb hr (fun t ht hW => ⟨⟨fun v9 hv9 => by cases hv9; exact (Or.inl ⟨v14p_2, t14p_tr, t14p_sh, rfl, hok, by omega, by omega, by omega, by omega, by rw [ht]; exact hI.1⟩), fun x9 hx9 => (by cases hx9)⟩, hI.2.F ht⟩) hI.2.2.2 d_Mo_showText_94)
      · omega
  have j14z : ∀ (n : Nat) (H : Heap) (locs : List Loc) (ls : Array Slot) (v14z_2 v14z_3 v14z_4 : Int32) (t14z_sh : Int), sI (dC, dI) vcl cI cJ (gsM a th tr dp zi co t14z_sh lt ts mf) A s.heap H locs → okM th tr dp zi co t14z_sh lt ts mf → 2 ≤ v14z_2.toInt → v14z_2.toInt ≤ 513 → 0 ≤ v14z_3.toInt → v14z_3.toInt ≤ 1 → 0 ≤ v14z_4.toInt → v14z_4.toInt ≤ 65535 → tr ≤ 0 → 0 ≤ x1.toInt → x1.toInt ≤ 511 → t14z_sh ≤ sh + 3 * v14z_2.toInt → lv_has ls 5 [(0, .ref (a 0)), (1, .int x1), (2, .int v14z_2), (3, .int v14z_3), (4, .int v14z_4)] → 514 - v14z_2.toInt < (n : Int) → W p l e (headSpec tw_tbl rm_Mo_showText).room s m ([.ref (a 0), .int x1] : List Value).toArray below meth c H locs 0 0 Z (F0 m 14 ls []) := by
    intro n
    induction n with
    | zero => intro H locs ls v14z_2 v14z_3 v14z_4 t14z_sh hI hok g14_0 g14_1 g14_2 g14_3 g14_4 g14_5 g14_6 g14_7 g14_8 g14_9 hl hme; exfalso; obtain ⟨⟨o36, o37⟩, ⟨o38, o39⟩, ⟨o40, o41⟩, ⟨o42, o43⟩, ⟨o44, o45⟩, ⟨o46, o47⟩, ⟨o48, o49⟩, ⟨o50, o51⟩, -⟩ := id hok; omega
    | succ n ih =>
      intro H locs ls v14z_2 v14z_3 v14z_4 t14z_sh hI hok g14_0 g14_1 g14_2 g14_3 g14_4 g14_5 g14_6 g14_7 g14_8 g14_9 hl hme
      obtain ⟨⟨o52, o53⟩, ⟨o54, o55⟩, ⟨o56, o57⟩, ⟨o58, o59⟩, ⟨o60, o61⟩, ⟨o62, o63⟩, ⟨o64, o65⟩, ⟨o66, o67⟩, -⟩ := id hok
      refine lv_iload_n hx hb d_Mo_showText_14 rfl (lv_at hl 3 rfl) ?_
      refine sn_if_eq (tgt := 93) hx hb d_Mo_showText_15 (by decide) (fun b68 => ?_) (fun b68 => ?_)
      · refine lv_iload_n hx hb d_Mo_showText_93 rfl (lv_at hl 2 rfl) ?_
        subst hZ
        exact tz_ret (W.iret (v := v14z_2) hx hb hr (fun t ht hW => ⟨⟨fun v9 hv9 => by cases hv9; exact (Or.inr (⟨v14z_2, t14z_sh, rfl, hok, by omega, by omega, by omega, by omega, by omega, by omega, by rw [ht]; exact hI.1⟩)), fun x9 hx9 => (by cases hx9)⟩, hI.2.F ht⟩) hI.2.2.2 d_Mo_showText_94)
      · refine lv_aload_n hx hb d_Mo_showText_18 rfl (lv_at hl 0 rfl) ?_
        refine sv_gete (C := "StoryMachineModel") (T := T_Mo) (N := 51) hx hb hts in_Mo hown hK hI 0 kM_0 rfl 25 (by decide) (hts _ mw_1088) rfl d_Mo_showText_19 (fun z69 hz69 => ?_)
        refine sn_if_ne (tgt := 93) hx hb d_Mo_showText_22 (by decide) (fun b70 => ?_) (fun b70 => ?_)
        · omega
        · refine lv_aload_n hx hb d_Mo_showText_25 rfl (lv_at hl 0 rfl) ?_
          refine lv_iload_n hx hb d_Mo_showText_26 rfl (lv_at hl 2 rfl) ?_
          refine tz_call (A1 := ga (adM a) H.size) (tz_runV (C := "StoryMachineModel") (As := [.int v14z_2]) (rest := []) ⟨hx, hb, hml, hown, hts⟩ (c_Mo_wordAt l hfl dC dI cI cJ a H.size th tr dp zi co t14z_sh lt ts mf v14z_2 hok) (tx_cb (n := 1) hts rfl rfl ⟨Nat.le_of_ble_eq_true rfl, Nat.le_of_ble_eq_true rfl⟩ (tx_code.of (hts _ mw_1252)) (hts _ mw_12) (by decide +kernel) (hts _ mw_1249)) (hts _ mw_1251) (hts _ ms_Mo_wordAt) ⟨tz_blind, sv_recv (q0 := 0) hts in_Mo hK hI kM_0 rfl, fun U hU hW => ⟨rfl, by rw [hU], by rw [hU]; exact hI.1, va_K.moved hW.alike hK, hst _ _ hI.2 U hU hW⟩⟩ rfl rfl hl.1 rfl (lv_room (Nat.le_of_ble_eq_true rfl)) d_Mo_showText_27 ⟨Nat.le_of_ble_eq_true rfl, Nat.le_of_ble_eq_true rfl⟩) hI.2 (fun q _ h => ga_sub hAC hA0 hI.2 q h) (ga_sub hAC hA0 hI.2) (fun v t H1 locs1 ht hWt hpost _ _ hS => ?_) (fun x t H1 locs1 ht hWt hpost _ _ hS => (hpost.2 x rfl).elim)
          rcases hpost.1 _ rfl with ⟨z71, t_tr72, hv, c73, c73_0, c73_1, c73_2, hI1⟩ | ⟨z74, hv, c75, c75_0, c75_1, c75_2, c75_3, c75_4, hI1⟩
          · cases hv
            have hI : sI (dC, dI) vcl cI cJ (gsM a th t_tr72 dp zi co t14z_sh lt ts mf) A s.heap H1 locs1 := ⟨by rw [← ht]; exact hI1, hS⟩
            obtain ⟨-, ⟨o76, o77⟩, -, -, -, -, -, -, -⟩ := id c73
            clear hpost hI1 hS ht hWt
            revert hI; generalize H1 = H; generalize locs1 = locs; intro hI
            refine lv_istore (lv' := [(4, .int z71), (0, .ref (a 0)), (1, .int x1), (2, .int v14z_2), (3, .int v14z_3)]) hx hb d_Mo_showText_30 hl (by decide) rfl (fun ls hl => ?_)
            refine lv_iload_n hx hb d_Mo_showText_32 rfl (lv_at hl 3 rfl) ?_
            refine sn_iconst hx hb d_Mo_showText_33 (by decide) (fun z78 hz78 => ?_)
            refine sn_iadd hx hb d_Mo_showText_34 (by omega) (by omega) (fun z79 hz79 => ?_)
            refine lv_istore_n (lv' := [(2, .int z79), (4, .int z71), (0, .ref (a 0)), (1, .int x1), (3, .int v14z_3)]) hx hb d_Mo_showText_35 rfl hl (by decide) rfl (fun ls hl => ?_)
            refine lv_iload hx hb d_Mo_showText_36 (lv_at hl 1 rfl) ?_
            refine sn_ldc (n := 32768) hx hb hown (hts _ mw_1402) d_Mo_showText_38 (by decide) (fun z80 hz80 => ?_)
            refine sn_icmp_ge (tgt := 47) hx hb d_Mo_showText_40 (by decide) (fun b81 => ?_) (fun b81 => ?_)
            · refine sn_iconst hx hb d_Mo_showText_47 (by decide) (fun z82 hz82 => ?_)
              refine lv_istore_n (lv' := [(3, .int z82), (2, .int z79), (4, .int z71), (0, .ref (a 0)), (1, .int x1)]) hx hb d_Mo_showText_48 rfl hl (by decide) rfl (fun ls hl => ?_)
              refine lv_aload_n hx hb d_Mo_showText_49 rfl (lv_at hl 3 rfl) ?_
              refine sv_gete (C := "StoryMachineModel") (T := T_Mo) (N := 51) hx hb hts in_Mo hown hK hI 0 kM_0 rfl 25 (by decide) (hts _ mw_1088) rfl d_Mo_showText_50 (fun z83 hz83 => ?_)
              refine sn_if_ne (tgt := 90) hx hb d_Mo_showText_53 (by decide) (fun b84 => ?_) (fun b84 => ?_)
              · refine lv_goto (tgt := 14) hx hb d_Mo_showText_90 (by decide) ?_
                exact j14p _ _ _ z79 z82 z71 t_tr72 t14z_sh hI c73 (by omega) (by omega) (by omega) (by omega) (by omega) (by omega) (by omega) (by omega) (by omega) (by omega) (lv_sub hl [3, 4, 1, 0, 2] rfl)
              · omega
            · refine sn_iconst hx hb d_Mo_showText_43 (by decide) (fun z85 hz85 => ?_)
              refine lv_goto (tgt := 48) hx hb d_Mo_showText_44 (by decide) ?_
              refine lv_istore_n (lv' := [(3, .int z85), (2, .int z79), (4, .int z71), (0, .ref (a 0)), (1, .int x1)]) hx hb d_Mo_showText_48 rfl hl (by decide) rfl (fun ls hl => ?_)
              refine lv_aload_n hx hb d_Mo_showText_49 rfl (lv_at hl 3 rfl) ?_
              refine sv_gete (C := "StoryMachineModel") (T := T_Mo) (N := 51) hx hb hts in_Mo hown hK hI 0 kM_0 rfl 25 (by decide) (hts _ mw_1088) rfl d_Mo_showText_50 (fun z86 hz86 => ?_)
              refine sn_if_ne (tgt := 90) hx hb d_Mo_showText_53 (by decide) (fun b87 => ?_) (fun b87 => ?_)
              · refine lv_goto (tgt := 14) hx hb d_Mo_showText_90 (by decide) ?_
                exact j14p _ _ _ z79 z85 z71 t_tr72 t14z_sh hI c73 (by omega) (by omega) (by omega) (by omega) (by omega) (by omega) (by omega) (by omega) (by omega) (by omega) (lv_sub hl [3, 4, 1, 0, 2] rfl)
              · omega
          · cases hv
            have hI : sI (dC, dI) vcl cI cJ (gsM a th tr dp zi co t14z_sh lt ts mf) A s.heap H1 locs1 := ⟨by rw [← ht]; exact hI1, hS⟩
            clear hpost hI1 hS ht hWt
            revert hI; generalize H1 = H; generalize locs1 = locs; intro hI
            refine lv_istore (lv' := [(4, .int z74), (0, .ref (a 0)), (1, .int x1), (2, .int v14z_2), (3, .int v14z_3)]) hx hb d_Mo_showText_30 hl (by decide) rfl (fun ls hl => ?_)
            refine lv_iload_n hx hb d_Mo_showText_32 rfl (lv_at hl 3 rfl) ?_
            refine sn_iconst hx hb d_Mo_showText_33 (by decide) (fun z88 hz88 => ?_)
            refine sn_iadd hx hb d_Mo_showText_34 (by omega) (by omega) (fun z89 hz89 => ?_)
            refine lv_istore_n (lv' := [(2, .int z89), (4, .int z74), (0, .ref (a 0)), (1, .int x1), (3, .int v14z_3)]) hx hb d_Mo_showText_35 rfl hl (by decide) rfl (fun ls hl => ?_)
            refine lv_iload hx hb d_Mo_showText_36 (lv_at hl 1 rfl) ?_
            refine sn_ldc (n := 32768) hx hb hown (hts _ mw_1402) d_Mo_showText_38 (by decide) (fun z90 hz90 => ?_)
            refine sn_icmp_ge (tgt := 47) hx hb d_Mo_showText_40 (by decide) (fun b91 => ?_) (fun b91 => ?_)
            · refine sn_iconst hx hb d_Mo_showText_47 (by decide) (fun z92 hz92 => ?_)
              refine lv_istore_n (lv' := [(3, .int z92), (2, .int z89), (4, .int z74), (0, .ref (a 0)), (1, .int x1)]) hx hb d_Mo_showText_48 rfl hl (by decide) rfl (fun ls hl => ?_)
              refine lv_aload_n hx hb d_Mo_showText_49 rfl (lv_at hl 3 rfl) ?_
              refine sv_gete (C := "StoryMachineModel") (T := T_Mo) (N := 51) hx hb hts in_Mo hown hK hI 0 kM_0 rfl 25 (by decide) (hts _ mw_1088) rfl d_Mo_showText_50 (fun z93 hz93 => ?_)
              refine sn_if_ne (tgt := 90) hx hb d_Mo_showText_53 (by decide) (fun b94 => ?_) (fun b94 => ?_)
              · omega
              · refine lv_aload_n hx hb d_Mo_showText_56 rfl (lv_at hl 3 rfl) ?_
                refine lv_iload hx hb d_Mo_showText_57 (lv_at hl 2 rfl) ?_
                refine sn_sipush hx hb d_Mo_showText_59 (by decide) (fun z95 hz95 => ?_)
                refine sn_idiv (k := 1024) hx hb d_Mo_showText_62 (by omega) (by omega) (by omega) (fun z96 hz96 => ?_)
                refine sn_bipush hx hb d_Mo_showText_63 (by decide) (fun z97 hz97 => ?_)
                refine sn_irem (k := 32) hx hb d_Mo_showText_65 (by omega) (by omega) (by omega) (fun z98 hz98 => ?_)
                refine tz_call (A1 := ga (adM a) H.size) (tz_runV (C := "StoryMachineModel") (As := [.int z98]) (rest := []) ⟨hx, hb, hml, hown, hts⟩ (c_Mo_letter l hfl dC dI cI cJ a H.size th tr dp zi co t14z_sh lt ts mf z98 c75 (by omega) (by omega) (by omega)) (tx_cb (n := 1) hts rfl rfl ⟨Nat.le_of_ble_eq_true rfl, Nat.le_of_ble_eq_true rfl⟩ (tx_code.of (hts _ mw_1406)) (hts _ mw_12) (by decide +kernel) (hts _ mw_1403)) (hts _ mw_1405) (hts _ ms_Mo_letter) ⟨tz_blind, sv_recv (q0 := 0) hts in_Mo hK hI kM_0 rfl, fun U hU hW => ⟨rfl, by rw [hU], by rw [hU]; exact hI.1, va_K.moved hW.alike hK, hst _ _ hI.2 U hU hW⟩⟩ rfl rfl hl.1 rfl (lv_room (Nat.le_of_ble_eq_true rfl)) d_Mo_showText_66 ⟨Nat.le_of_ble_eq_true rfl, Nat.le_of_ble_eq_true rfl⟩) hI.2 (fun q _ h => ga_sub hAC hA0 hI.2 q h) (ga_sub hAC hA0 hI.2) (fun v t H1 locs1 ht hWt hpost _ _ hS => ?_) (fun x t H1 locs1 ht hWt hpost _ _ hS => (hpost.2 x rfl).elim)
                rcases hpost.1 _ rfl with ⟨hv, c99, c99_0, hI1⟩ | ⟨hv, c100, hI1⟩ | ⟨t_sh101, hv, c102, c102_0, c102_1, c102_2, hI1⟩
                · omega
                · cases hv
                  have hI : sI (dC, dI) vcl cI cJ (gsM a th tr dp zi co t14z_sh lt ts mf) A s.heap H1 locs1 := ⟨by rw [← ht]; exact hI1, hS⟩
                  clear hpost hI1 hS ht hWt
                  revert hI; generalize H1 = H; generalize locs1 = locs; intro hI
                  refine lv_aload_n hx hb d_Mo_showText_69 rfl (lv_at hl 3 rfl) ?_
                  refine lv_iload hx hb d_Mo_showText_70 (lv_at hl 2 rfl) ?_
                  refine sn_bipush hx hb d_Mo_showText_72 (by decide) (fun z103 hz103 => ?_)
                  refine sn_idiv (k := 32) hx hb d_Mo_showText_74 (by omega) (by omega) (by omega) (fun z104 hz104 => ?_)
                  refine sn_bipush hx hb d_Mo_showText_75 (by decide) (fun z105 hz105 => ?_)
                  refine sn_irem (k := 32) hx hb d_Mo_showText_77 (by omega) (by omega) (by omega) (fun z106 hz106 => ?_)
                  refine tz_call (A1 := ga (adM a) H.size) (tz_runV (C := "StoryMachineModel") (As := [.int z106]) (rest := []) ⟨hx, hb, hml, hown, hts⟩ (c_Mo_letter l hfl dC dI cI cJ a H.size th tr dp zi co t14z_sh lt ts mf z106 c100 (by omega) (by omega) (by omega)) (tx_cb (n := 1) hts rfl rfl ⟨Nat.le_of_ble_eq_true rfl, Nat.le_of_ble_eq_true rfl⟩ (tx_code.of (hts _ mw_1406)) (hts _ mw_12) (by decide +kernel) (hts _ mw_1403)) (hts _ mw_1405) (hts _ ms_Mo_letter) ⟨tz_blind, sv_recv (q0 := 0) hts in_Mo hK hI kM_0 rfl, fun U hU hW => ⟨rfl, by rw [hU], by rw [hU]; exact hI.1, va_K.moved hW.alike hK, hst _ _ hI.2 U hU hW⟩⟩ rfl rfl hl.1 rfl (lv_room (Nat.le_of_ble_eq_true rfl)) d_Mo_showText_78 ⟨Nat.le_of_ble_eq_true rfl, Nat.le_of_ble_eq_true rfl⟩) hI.2 (fun q _ h => ga_sub hAC hA0 hI.2 q h) (ga_sub hAC hA0 hI.2) (fun v t H1 locs1 ht hWt hpost _ _ hS => ?_) (fun x t H1 locs1 ht hWt hpost _ _ hS => (hpost.2 x rfl).elim)
                  rcases hpost.1 _ rfl with ⟨hv, c107, c107_0, hI1⟩ | ⟨hv, c108, hI1⟩ | ⟨t_sh109, hv, c110, c110_0, c110_1, c110_2, hI1⟩
                  · omega
                  · cases hv
                    have hI : sI (dC, dI) vcl cI cJ (gsM a th tr dp zi co t14z_sh lt ts mf) A s.heap H1 locs1 := ⟨by rw [← ht]; exact hI1, hS⟩
                    clear hpost hI1 hS ht hWt
                    revert hI; generalize H1 = H; generalize locs1 = locs; intro hI
                    refine lv_aload_n hx hb d_Mo_showText_81 rfl (lv_at hl 3 rfl) ?_
                    refine lv_iload hx hb d_Mo_showText_82 (lv_at hl 2 rfl) ?_
                    refine sn_bipush hx hb d_Mo_showText_84 (by decide) (fun z111 hz111 => ?_)
                    refine sn_irem (k := 32) hx hb d_Mo_showText_86 (by omega) (by omega) (by omega) (fun z112 hz112 => ?_)
                    refine tz_call (A1 := ga (adM a) H.size) (tz_runV (C := "StoryMachineModel") (As := [.int z112]) (rest := []) ⟨hx, hb, hml, hown, hts⟩ (c_Mo_letter l hfl dC dI cI cJ a H.size th tr dp zi co t14z_sh lt ts mf z112 c108 (by omega) (by omega) (by omega)) (tx_cb (n := 1) hts rfl rfl ⟨Nat.le_of_ble_eq_true rfl, Nat.le_of_ble_eq_true rfl⟩ (tx_code.of (hts _ mw_1406)) (hts _ mw_12) (by decide +kernel) (hts _ mw_1403)) (hts _ mw_1405) (hts _ ms_Mo_letter) ⟨tz_blind, sv_recv (q0 := 0) hts in_Mo hK hI kM_0 rfl, fun U hU hW => ⟨rfl, by rw [hU], by rw [hU]; exact hI.1, va_K.moved hW.alike hK, hst _ _ hI.2 U hU hW⟩⟩ rfl rfl hl.1 rfl (lv_room (Nat.le_of_ble_eq_true rfl)) d_Mo_showText_87 ⟨Nat.le_of_ble_eq_true rfl, Nat.le_of_ble_eq_true rfl⟩) hI.2 (fun q _ h => ga_sub hAC hA0 hI.2 q h) (ga_sub hAC hA0 hI.2) (fun v t H1 locs1 ht hWt hpost _ _ hS => ?_) (fun x t H1 locs1 ht hWt hpost _ _ hS => (hpost.2 x rfl).elim)
                    rcases hpost.1 _ rfl with ⟨hv, c113, c113_0, hI1⟩ | ⟨hv, c114, hI1⟩ | ⟨t_sh115, hv, c116, c116_0, c116_1, c116_2, hI1⟩
                    · omega
                    · cases hv
                      have hI : sI (dC, dI) vcl cI cJ (gsM a th tr dp zi co t14z_sh lt ts mf) A s.heap H1 locs1 := ⟨by rw [← ht]; exact hI1, hS⟩
                      clear hpost hI1 hS ht hWt
                      revert hI; generalize H1 = H; generalize locs1 = locs; intro hI
                      refine lv_goto (tgt := 14) hx hb d_Mo_showText_90 (by decide) ?_
                      exact ih _ _ _ z89 z92 z74 t14z_sh hI c114 (by omega) (by omega) (by omega) (by omega) (by omega) (by omega) (by omega) (by omega) (by omega) (by omega) (lv_sub hl [3, 4, 1, 0, 2] rfl) (by omega)
                    · cases hv
                      have hI : sI (dC, dI) vcl cI cJ (gsM a th tr dp zi co t_sh115 lt ts mf) A s.heap H1 locs1 := ⟨by rw [← ht]; exact hI1, hS⟩
                      obtain ⟨-, -, -, -, -, ⟨o117, o118⟩, -, -, -⟩ := id c116
                      clear hpost hI1 hS ht hWt
                      revert hI; generalize H1 = H; generalize locs1 = locs; intro hI
                      refine lv_goto (tgt := 14) hx hb d_Mo_showText_90 (by decide) ?_
                      exact ih _ _ _ z89 z92 z74 t_sh115 hI c116 (by omega) (by omega) (by omega) (by omega) (by omega) (by omega) (by omega) (by omega) (by omega) (by omega) (lv_sub hl [3, 4, 1, 0, 2] rfl) (by omega)
                  · cases hv
                    have hI : sI (dC, dI) vcl cI cJ (gsM a th tr dp zi co t_sh109 lt ts mf) A s.heap H1 locs1 := ⟨by rw [← ht]; exact hI1, hS⟩
                    obtain ⟨-, -, -, -, -, ⟨o119, o120⟩, -, -, -⟩ := id c110
                    clear hpost hI1 hS ht hWt
                    revert hI; generalize H1 = H; generalize locs1 = locs; intro hI
                    refine lv_aload_n hx hb d_Mo_showText_81 rfl (lv_at hl 3 rfl) ?_
                    refine lv_iload hx hb d_Mo_showText_82 (lv_at hl 2 rfl) ?_
                    refine sn_bipush hx hb d_Mo_showText_84 (by decide) (fun z121 hz121 => ?_)
                    refine sn_irem (k := 32) hx hb d_Mo_showText_86 (by omega) (by omega) (by omega) (fun z122 hz122 => ?_)
                    refine tz_call (A1 := ga (adM a) H.size) (tz_runV (C := "StoryMachineModel") (As := [.int z122]) (rest := []) ⟨hx, hb, hml, hown, hts⟩ (c_Mo_letter l hfl dC dI cI cJ a H.size th tr dp zi co t_sh109 lt ts mf z122 c110 (by omega) (by omega) (by omega)) (tx_cb (n := 1) hts rfl rfl ⟨Nat.le_of_ble_eq_true rfl, Nat.le_of_ble_eq_true rfl⟩ (tx_code.of (hts _ mw_1406)) (hts _ mw_12) (by decide +kernel) (hts _ mw_1403)) (hts _ mw_1405) (hts _ ms_Mo_letter) ⟨tz_blind, sv_recv (q0 := 0) hts in_Mo hK hI kM_0 rfl, fun U hU hW => ⟨rfl, by rw [hU], by rw [hU]; exact hI.1, va_K.moved hW.alike hK, hst _ _ hI.2 U hU hW⟩⟩ rfl rfl hl.1 rfl (lv_room (Nat.le_of_ble_eq_true rfl)) d_Mo_showText_87 ⟨Nat.le_of_ble_eq_true rfl, Nat.le_of_ble_eq_true rfl⟩) hI.2 (fun q _ h => ga_sub hAC hA0 hI.2 q h) (ga_sub hAC hA0 hI.2) (fun v t H1 locs1 ht hWt hpost _ _ hS => ?_) (fun x t H1 locs1 ht hWt hpost _ _ hS => (hpost.2 x rfl).elim)
                    rcases hpost.1 _ rfl with ⟨hv, c123, c123_0, hI1⟩ | ⟨hv, c124, hI1⟩ | ⟨t_sh125, hv, c126, c126_0, c126_1, c126_2, hI1⟩
                    · omega
                    · cases hv
                      have hI : sI (dC, dI) vcl cI cJ (gsM a th tr dp zi co t_sh109 lt ts mf) A s.heap H1 locs1 := ⟨by rw [← ht]; exact hI1, hS⟩
                      clear hpost hI1 hS ht hWt
                      revert hI; generalize H1 = H; generalize locs1 = locs; intro hI
                      refine lv_goto (tgt := 14) hx hb d_Mo_showText_90 (by decide) ?_
                      exact ih _ _ _ z89 z92 z74 t_sh109 hI c124 (by omega) (by omega) (by omega) (by omega) (by omega) (by omega) (by omega) (by omega) (by omega) (by omega) (lv_sub hl [3, 4, 1, 0, 2] rfl) (by omega)
                    · cases hv
                      have hI : sI (dC, dI) vcl cI cJ (gsM a th tr dp zi co t_sh125 lt ts mf) A s.heap H1 locs1 := ⟨by rw [← ht]; exact hI1, hS⟩
                      obtain ⟨-, -, -, -, -, ⟨o127, o128⟩, -, -, -⟩ := id c126
                      clear hpost hI1 hS ht hWt
                      revert hI; generalize H1 = H; generalize locs1 = locs; intro hI
                      refine lv_goto (tgt := 14) hx hb d_Mo_showText_90 (by decide) ?_
                      exact ih _ _ _ z89 z92 z74 t_sh125 hI c126 (by omega) (by omega) (by omega) (by omega) (by omega) (by omega) (by omega) (by omega) (by omega) (by omega) (lv_sub hl [3, 4, 1, 0, 2] rfl) (by omega)
                · cases hv
                  have hI : sI (dC, dI) vcl cI cJ (gsM a th tr dp zi co t_sh101 lt ts mf) A s.heap H1 locs1 := ⟨by rw [← ht]; exact hI1, hS⟩
                  obtain ⟨-, -, -, -, -, ⟨o129, o130⟩, -, -, -⟩ := id c102
                  clear hpost hI1 hS ht hWt
                  revert hI; generalize H1 = H; generalize locs1 = locs; intro hI
                  refine lv_aload_n hx hb d_Mo_showText_69 rfl (lv_at hl 3 rfl) ?_
                  refine lv_iload hx hb d_Mo_showText_70 (lv_at hl 2 rfl) ?_
                  refine sn_bipush hx hb d_Mo_showText_72 (by decide) (fun z131 hz131 => ?_)
                  refine sn_idiv (k := 32) hx hb d_Mo_showText_74 (by omega) (by omega) (by omega) (fun z132 hz132 => ?_)
                  refine sn_bipush hx hb d_Mo_showText_75 (by decide) (fun z133 hz133 => ?_)
                  refine sn_irem (k := 32) hx hb d_Mo_showText_77 (by omega) (by omega) (by omega) (fun z134 hz134 => ?_)
                  refine tz_call (A1 := ga (adM a) H.size) (tz_runV (C := "StoryMachineModel") (As := [.int z134]) (rest := []) ⟨hx, hb, hml, hown, hts⟩ (c_Mo_letter l hfl dC dI cI cJ a H.size th tr dp zi co t_sh101 lt ts mf z134 c102 (by omega) (by omega) (by omega)) (tx_cb (n := 1) hts rfl rfl ⟨Nat.le_of_ble_eq_true rfl, Nat.le_of_ble_eq_true rfl⟩ (tx_code.of (hts _ mw_1406)) (hts _ mw_12) (by decide +kernel) (hts _ mw_1403)) (hts _ mw_1405) (hts _ ms_Mo_letter) ⟨tz_blind, sv_recv (q0 := 0) hts in_Mo hK hI kM_0 rfl, fun U hU hW => ⟨rfl, by rw [hU], by rw [hU]; exact hI.1, va_K.moved hW.alike hK, hst _ _ hI.2 U hU hW⟩⟩ rfl rfl hl.1 rfl (lv_room (Nat.le_of_ble_eq_true rfl)) d_Mo_showText_78 ⟨Nat.le_of_ble_eq_true rfl, Nat.le_of_ble_eq_true rfl⟩) hI.2 (fun q _ h => ga_sub hAC hA0 hI.2 q h) (ga_sub hAC hA0 hI.2) (fun v t H1 locs1 ht hWt hpost _ _ hS => ?_) (fun x t H1 locs1 ht hWt hpost _ _ hS => (hpost.2 x rfl).elim)
                  rcases hpost.1 _ rfl with ⟨hv, c135, c135_0, hI1⟩ | ⟨hv, c136, hI1⟩ | ⟨t_sh137, hv, c138, c138_0, c138_1, c138_2, hI1⟩
                  · omega
                  · cases hv
                    have hI : sI (dC, dI) vcl cI cJ (gsM a th tr dp zi co t_sh101 lt ts mf) A s.heap H1 locs1 := ⟨by rw [← ht]; exact hI1, hS⟩
                    clear hpost hI1 hS ht hWt
                    revert hI; generalize H1 = H; generalize locs1 = locs; intro hI
                    refine lv_aload_n hx hb d_Mo_showText_81 rfl (lv_at hl 3 rfl) ?_
                    refine lv_iload hx hb d_Mo_showText_82 (lv_at hl 2 rfl) ?_
                    refine sn_bipush hx hb d_Mo_showText_84 (by decide) (fun z139 hz139 => ?_)
                    refine sn_irem (k := 32) hx hb d_Mo_showText_86 (by omega) (by omega) (by omega) (fun z140 hz140 => ?_)
                    refine tz_call (A1 := ga (adM a) H.size) (tz_runV (C := "StoryMachineModel") (As := [.int z140]) (rest := []) ⟨hx, hb, hml, hown, hts⟩ (c_Mo_letter l hfl dC dI cI cJ a H.size th tr dp zi co t_sh101 lt ts mf z140 c136 (by omega) (by omega) (by omega)) (tx_cb (n := 1) hts rfl rfl ⟨Nat.le_of_ble_eq_true rfl, Nat.le_of_ble_eq_true rfl⟩ (tx_code.of (hts _ mw_1406)) (hts _ mw_12) (by decide +kernel) (hts _ mw_1403)) (hts _ mw_1405) (hts _ ms_Mo_letter) ⟨tz_blind, sv_recv (q0 := 0) hts in_Mo hK hI kM_0 rfl, fun U hU hW => ⟨rfl, by rw [hU], by rw [hU]; exact hI.1, va_K.moved hW.alike hK, hst _ _ hI.2 U hU hW⟩⟩ rfl rfl hl.1 rfl (lv_room (Nat.le_of_ble_eq_true rfl)) d_Mo_showText_87 ⟨Nat.le_of_ble_eq_true rfl, Nat.le_of_ble_eq_true rfl⟩) hI.2 (fun q _ h => ga_sub hAC hA0 hI.2 q h) (ga_sub hAC hA0 hI.2) (fun v t H1 locs1 ht hWt hpost _ _ hS => ?_) (fun x t H1 locs1 ht hWt hpost _ _ hS => (hpost.2 x rfl).elim)
                    rcases hpost.1 _ rfl with ⟨hv, c141, c141_0, hI1⟩ | ⟨hv, c142, hI1⟩ | ⟨t_sh143, hv, c144, c144_0, c144_1, c144_2, hI1⟩
                    · omega
                    · cases hv
                      have hI : sI (dC, dI) vcl cI cJ (gsM a th tr dp zi co t_sh101 lt ts mf) A s.heap H1 locs1 := ⟨by rw [← ht]; exact hI1, hS⟩
                      clear hpost hI1 hS ht hWt
                      revert hI; generalize H1 = H; generalize locs1 = locs; intro hI
                      refine lv_goto (tgt := 14) hx hb d_Mo_showText_90 (by decide) ?_
                      exact ih _ _ _ z89 z92 z74 t_sh101 hI c142 (by omega) (by omega) (by omega) (by omega) (by omega) (by omega) (by omega) (by omega) (by omega) (by omega) (lv_sub hl [3, 4, 1, 0, 2] rfl) (by omega)
                    · cases hv
                      have hI : sI (dC, dI) vcl cI cJ (gsM a th tr dp zi co t_sh143 lt ts mf) A s.heap H1 locs1 := ⟨by rw [← ht]; exact hI1, hS⟩
                      obtain ⟨-, -, -, -, -, ⟨o145, o146⟩, -, -, -⟩ := id c144
                      clear hpost hI1 hS ht hWt
                      revert hI; generalize H1 = H; generalize locs1 = locs; intro hI
                      refine lv_goto (tgt := 14) hx hb d_Mo_showText_90 (by decide) ?_
                      exact ih _ _ _ z89 z92 z74 t_sh143 hI c144 (by omega) (by omega) (by omega) (by omega) (by omega) (by omega) (by omega) (by omega) (by omega) (by omega) (lv_sub hl [3, 4, 1, 0, 2] rfl) (by omega)
                  · cases hv
                    have hI : sI (dC, dI) vcl cI cJ (gsM a th tr dp zi co t_sh137 lt ts mf) A s.heap H1 locs1 := ⟨by rw [← ht]; exact hI1, hS⟩
                    obtain ⟨-, -, -, -, -, ⟨o147, o148⟩, -, -, -⟩ := id c138
                    clear hpost hI1 hS ht hWt
                    revert hI; generalize H1 = H; generalize locs1 = locs; intro hI
                    refine lv_aload_n hx hb d_Mo_showText_81 rfl (lv_at hl 3 rfl) ?_
                    refine lv_iload hx hb d_Mo_showText_82 (lv_at hl 2 rfl) ?_
                    refine sn_bipush hx hb d_Mo_showText_84 (by decide) (fun z149 hz149 => ?_)
                    refine sn_irem (k := 32) hx hb d_Mo_showText_86 (by omega) (by omega) (by omega) (fun z150 hz150 => ?_)
                    refine tz_call (A1 := ga (adM a) H.size) (tz_runV (C := "StoryMachineModel") (As := [.int z150]) (rest := []) ⟨hx, hb, hml, hown, hts⟩ (c_Mo_letter l hfl dC dI cI cJ a H.size th tr dp zi co t_sh137 lt ts mf z150 c138 (by omega) (by omega) (by omega)) (tx_cb (n := 1) hts rfl rfl ⟨Nat.le_of_ble_eq_true rfl, Nat.le_of_ble_eq_true rfl⟩ (tx_code.of (hts _ mw_1406)) (hts _ mw_12) (by decide +kernel) (hts _ mw_1403)) (hts _ mw_1405) (hts _ ms_Mo_letter) ⟨tz_blind, sv_recv (q0 := 0) hts in_Mo hK hI kM_0 rfl, fun U hU hW => ⟨rfl, by rw [hU], by rw [hU]; exact hI.1, va_K.moved hW.alike hK, hst _ _ hI.2 U hU hW⟩⟩ rfl rfl hl.1 rfl (lv_room (Nat.le_of_ble_eq_true rfl)) d_Mo_showText_87 ⟨Nat.le_of_ble_eq_true rfl, Nat.le_of_ble_eq_true rfl⟩) hI.2 (fun q _ h => ga_sub hAC hA0 hI.2 q h) (ga_sub hAC hA0 hI.2) (fun v t H1 locs1 ht hWt hpost _ _ hS => ?_) (fun x t H1 locs1 ht hWt hpost _ _ hS => (hpost.2 x rfl).elim)
                    rcases hpost.1 _ rfl with ⟨hv, c151, c151_0, hI1⟩ | ⟨hv, c152, hI1⟩ | ⟨t_sh153, hv, c154, c154_0, c154_1, c154_2, hI1⟩
                    · omega
                    · cases hv
                      have hI : sI (dC, dI) vcl cI cJ (gsM a th tr dp zi co t_sh137 lt ts mf) A s.heap H1 locs1 := ⟨by rw [← ht]; exact hI1, hS⟩
                      clear hpost hI1 hS ht hWt
                      revert hI; generalize H1 = H; generalize locs1 = locs; intro hI
                      refine lv_goto (tgt := 14) hx hb d_Mo_showText_90 (by decide) ?_
                      exact ih _ _ _ z89 z92 z74 t_sh137 hI c152 (by omega) (by omega) (by omega) (by omega) (by omega) (by omega) (by omega) (by omega) (by omega) (by omega) (lv_sub hl [3, 4, 1, 0, 2] rfl) (by omega)
                    · cases hv
                      have hI : sI (dC, dI) vcl cI cJ (gsM a th tr dp zi co t_sh153 lt ts mf) A s.heap H1 locs1 := ⟨by rw [← ht]; exact hI1, hS⟩
                      obtain ⟨-, -, -, -, -, ⟨o155, o156⟩, -, -, -⟩ := id c154
                      clear hpost hI1 hS ht hWt
                      revert hI; generalize H1 = H; generalize locs1 = locs; intro hI
                      refine lv_goto (tgt := 14) hx hb d_Mo_showText_90 (by decide) ?_
                      exact ih _ _ _ z89 z92 z74 t_sh153 hI c154 (by omega) (by omega) (by omega) (by omega) (by omega) (by omega) (by omega) (by omega) (by omega) (by omega) (lv_sub hl [3, 4, 1, 0, 2] rfl) (by omega)
            · refine sn_iconst hx hb d_Mo_showText_43 (by decide) (fun z157 hz157 => ?_)
              refine lv_goto (tgt := 48) hx hb d_Mo_showText_44 (by decide) ?_
              refine lv_istore_n (lv' := [(3, .int z157), (2, .int z89), (4, .int z74), (0, .ref (a 0)), (1, .int x1)]) hx hb d_Mo_showText_48 rfl hl (by decide) rfl (fun ls hl => ?_)
              refine lv_aload_n hx hb d_Mo_showText_49 rfl (lv_at hl 3 rfl) ?_
              refine sv_gete (C := "StoryMachineModel") (T := T_Mo) (N := 51) hx hb hts in_Mo hown hK hI 0 kM_0 rfl 25 (by decide) (hts _ mw_1088) rfl d_Mo_showText_50 (fun z158 hz158 => ?_)
              refine sn_if_ne (tgt := 90) hx hb d_Mo_showText_53 (by decide) (fun b159 => ?_) (fun b159 => ?_)
              · omega
              · refine lv_aload_n hx hb d_Mo_showText_56 rfl (lv_at hl 3 rfl) ?_
                refine lv_iload hx hb d_Mo_showText_57 (lv_at hl 2 rfl) ?_
                refine sn_sipush hx hb d_Mo_showText_59 (by decide) (fun z160 hz160 => ?_)
                refine sn_idiv (k := 1024) hx hb d_Mo_showText_62 (by omega) (by omega) (by omega) (fun z161 hz161 => ?_)
                refine sn_bipush hx hb d_Mo_showText_63 (by decide) (fun z162 hz162 => ?_)
                refine sn_irem (k := 32) hx hb d_Mo_showText_65 (by omega) (by omega) (by omega) (fun z163 hz163 => ?_)
                refine tz_call (A1 := ga (adM a) H.size) (tz_runV (C := "StoryMachineModel") (As := [.int z163]) (rest := []) ⟨hx, hb, hml, hown, hts⟩ (c_Mo_letter l hfl dC dI cI cJ a H.size th tr dp zi co t14z_sh lt ts mf z163 c75 (by omega) (by omega) (by omega)) (tx_cb (n := 1) hts rfl rfl ⟨Nat.le_of_ble_eq_true rfl, Nat.le_of_ble_eq_true rfl⟩ (tx_code.of (hts _ mw_1406)) (hts _ mw_12) (by decide +kernel) (hts _ mw_1403)) (hts _ mw_1405) (hts _ ms_Mo_letter) ⟨tz_blind, sv_recv (q0 := 0) hts in_Mo hK hI kM_0 rfl, fun U hU hW => ⟨rfl, by rw [hU], by rw [hU]; exact hI.1, va_K.moved hW.alike hK, hst _ _ hI.2 U hU hW⟩⟩ rfl rfl hl.1 rfl (lv_room (Nat.le_of_ble_eq_true rfl)) d_Mo_showText_66 ⟨Nat.le_of_ble_eq_true rfl, Nat.le_of_ble_eq_true rfl⟩) hI.2 (fun q _ h => ga_sub hAC hA0 hI.2 q h) (ga_sub hAC hA0 hI.2) (fun v t H1 locs1 ht hWt hpost _ _ hS => ?_) (fun x t H1 locs1 ht hWt hpost _ _ hS => (hpost.2 x rfl).elim)
                rcases hpost.1 _ rfl with ⟨hv, c164, c164_0, hI1⟩ | ⟨hv, c165, hI1⟩ | ⟨t_sh166, hv, c167, c167_0, c167_1, c167_2, hI1⟩
                · omega
                · cases hv
                  have hI : sI (dC, dI) vcl cI cJ (gsM a th tr dp zi co t14z_sh lt ts mf) A s.heap H1 locs1 := ⟨by rw [← ht]; exact hI1, hS⟩
                  clear hpost hI1 hS ht hWt
                  revert hI; generalize H1 = H; generalize locs1 = locs; intro hI
                  refine lv_aload_n hx hb d_Mo_showText_69 rfl (lv_at hl 3 rfl) ?_
                  refine lv_iload hx hb d_Mo_showText_70 (lv_at hl 2 rfl) ?_
                  refine sn_bipush hx hb d_Mo_showText_72 (by decide) (fun z168 hz168 => ?_)
                  refine sn_idiv (k := 32) hx hb d_Mo_showText_74 (by omega) (by omega) (by omega) (fun z169 hz169 => ?_)
                  refine sn_bipush hx hb d_Mo_showText_75 (by decide) (fun z170 hz170 => ?_)
                  refine sn_irem (k := 32) hx hb d_Mo_showText_77 (by omega) (by omega) (by omega) (fun z171 hz171 => ?_)
                  refine tz_call (A1 := ga (adM a) H.size) (tz_runV (C := "StoryMachineModel") (As := [.int z171]) (rest := []) ⟨hx, hb, hml, hown, hts⟩ (c_Mo_letter l hfl dC dI cI cJ a H.size th tr dp zi co t14z_sh lt ts mf z171 c165 (by omega) (by omega) (by omega)) (tx_cb (n := 1) hts rfl rfl ⟨Nat.le_of_ble_eq_true rfl, Nat.le_of_ble_eq_true rfl⟩ (tx_code.of (hts _ mw_1406)) (hts _ mw_12) (by decide +kernel) (hts _ mw_1403)) (hts _ mw_1405) (hts _ ms_Mo_letter) ⟨tz_blind, sv_recv (q0 := 0) hts in_Mo hK hI kM_0 rfl, fun U hU hW => ⟨rfl, by rw [hU], by rw [hU]; exact hI.1, va_K.moved hW.alike hK, hst _ _ hI.2 U hU hW⟩⟩ rfl rfl hl.1 rfl (lv_room (Nat.le_of_ble_eq_true rfl)) d_Mo_showText_78 ⟨Nat.le_of_ble_eq_true rfl, Nat.le_of_ble_eq_true rfl⟩) hI.2 (fun q _ h => ga_sub hAC hA0 hI.2 q h) (ga_sub hAC hA0 hI.2) (fun v t H1 locs1 ht hWt hpost _ _ hS => ?_) (fun x t H1 locs1 ht hWt hpost _ _ hS => (hpost.2 x rfl).elim)
                  rcases hpost.1 _ rfl with ⟨hv, c172, c172_0, hI1⟩ | ⟨hv, c173, hI1⟩ | ⟨t_sh174, hv, c175, c175_0, c175_1, c175_2, hI1⟩
                  · omega
                  · cases hv
                    have hI : sI (dC, dI) vcl cI cJ (gsM a th tr dp zi co t14z_sh lt ts mf) A s.heap H1 locs1 := ⟨by rw [← ht]; exact hI1, hS⟩
                    clear hpost hI1 hS ht hWt
                    revert hI; generalize H1 = H; generalize locs1 = locs; intro hI
                    refine lv_aload_n hx hb d_Mo_showText_81 rfl (lv_at hl 3 rfl) ?_
                    refine lv_iload hx hb d_Mo_showText_82 (lv_at hl 2 rfl) ?_
                    refine sn_bipush hx hb d_Mo_showText_84 (by decide) (fun z176 hz176 => ?_)
                    refine sn_irem (k := 32) hx hb d_Mo_showText_86 (by omega) (by omega) (by omega) (fun z177 hz177 => ?_)
                    refine tz_call (A1 := ga (adM a) H.size) (tz_runV (C := "StoryMachineModel") (As := [.int z177]) (rest := []) ⟨hx, hb, hml, hown, hts⟩ (c_Mo_letter l hfl dC dI cI cJ a H.size th tr dp zi co t14z_sh lt ts mf z177 c173 (by omega) (by omega) (by omega)) (tx_cb (n := 1) hts rfl rfl ⟨Nat.le_of_ble_eq_true rfl, Nat.le_of_ble_eq_true rfl⟩ (tx_code.of (hts _ mw_1406)) (hts _ mw_12) (by decide +kernel) (hts _ mw_1403)) (hts _ mw_1405) (hts _ ms_Mo_letter) ⟨tz_blind, sv_recv (q0 := 0) hts in_Mo hK hI kM_0 rfl, fun U hU hW => ⟨rfl, by rw [hU], by rw [hU]; exact hI.1, va_K.moved hW.alike hK, hst _ _ hI.2 U hU hW⟩⟩ rfl rfl hl.1 rfl (lv_room (Nat.le_of_ble_eq_true rfl)) d_Mo_showText_87 ⟨Nat.le_of_ble_eq_true rfl, Nat.le_of_ble_eq_true rfl⟩) hI.2 (fun q _ h => ga_sub hAC hA0 hI.2 q h) (ga_sub hAC hA0 hI.2) (fun v t H1 locs1 ht hWt hpost _ _ hS => ?_) (fun x t H1 locs1 ht hWt hpost _ _ hS => (hpost.2 x rfl).elim)
                    rcases hpost.1 _ rfl with ⟨hv, c178, c178_0, hI1⟩ | ⟨hv, c179, hI1⟩ | ⟨t_sh180, hv, c181, c181_0, c181_1, c181_2, hI1⟩
                    · omega
                    · cases hv
                      have hI : sI (dC, dI) vcl cI cJ (gsM a th tr dp zi co t14z_sh lt ts mf) A s.heap H1 locs1 := ⟨by rw [← ht]; exact hI1, hS⟩
                      clear hpost hI1 hS ht hWt
                      revert hI; generalize H1 = H; generalize locs1 = locs; intro hI
                      refine lv_goto (tgt := 14) hx hb d_Mo_showText_90 (by decide) ?_
                      exact ih _ _ _ z89 z157 z74 t14z_sh hI c179 (by omega) (by omega) (by omega) (by omega) (by omega) (by omega) (by omega) (by omega) (by omega) (by omega) (lv_sub hl [3, 4, 1, 0, 2] rfl) (by omega)
                    · cases hv
                      have hI : sI (dC, dI) vcl cI cJ (gsM a th tr dp zi co t_sh180 lt ts mf) A s.heap H1 locs1 := ⟨by rw [← ht]; exact hI1, hS⟩
                      obtain ⟨-, -, -, -, -, ⟨o182, o183⟩, -, -, -⟩ := id c181
                      clear hpost hI1 hS ht hWt
                      revert hI; generalize H1 = H; generalize locs1 = locs; intro hI
                      refine lv_goto (tgt := 14) hx hb d_Mo_showText_90 (by decide) ?_
                      exact ih _ _ _ z89 z157 z74 t_sh180 hI c181 (by omega) (by omega) (by omega) (by omega) (by omega) (by omega) (by omega) (by omega) (by omega) (by omega) (lv_sub hl [3, 4, 1, 0, 2] rfl) (by omega)
                  · cases hv
                    have hI : sI (dC, dI) vcl cI cJ (gsM a th tr dp zi co t_sh174 lt ts mf) A s.heap H1 locs1 := ⟨by rw [← ht]; exact hI1, hS⟩
                    obtain ⟨-, -, -, -, -, ⟨o184, o185⟩, -, -, -⟩ := id c175
                    clear hpost hI1 hS ht hWt
                    revert hI; generalize H1 = H; generalize locs1 = locs; intro hI
                    refine lv_aload_n hx hb d_Mo_showText_81 rfl (lv_at hl 3 rfl) ?_
                    refine lv_iload hx hb d_Mo_showText_82 (lv_at hl 2 rfl) ?_
                    refine sn_bipush hx hb d_Mo_showText_84 (by decide) (fun z186 hz186 => ?_)
                    refine sn_irem (k := 32) hx hb d_Mo_showText_86 (by omega) (by omega) (by omega) (fun z187 hz187 => ?_)
                    refine tz_call (A1 := ga (adM a) H.size) (tz_runV (C := "StoryMachineModel") (As := [.int z187]) (rest := []) ⟨hx, hb, hml, hown, hts⟩ (c_Mo_letter l hfl dC dI cI cJ a H.size th tr dp zi co t_sh174 lt ts mf z187 c175 (by omega) (by omega) (by omega)) (tx_cb (n := 1) hts rfl rfl ⟨Nat.le_of_ble_eq_true rfl, Nat.le_of_ble_eq_true rfl⟩ (tx_code.of (hts _ mw_1406)) (hts _ mw_12) (by decide +kernel) (hts _ mw_1403)) (hts _ mw_1405) (hts _ ms_Mo_letter) ⟨tz_blind, sv_recv (q0 := 0) hts in_Mo hK hI kM_0 rfl, fun U hU hW => ⟨rfl, by rw [hU], by rw [hU]; exact hI.1, va_K.moved hW.alike hK, hst _ _ hI.2 U hU hW⟩⟩ rfl rfl hl.1 rfl (lv_room (Nat.le_of_ble_eq_true rfl)) d_Mo_showText_87 ⟨Nat.le_of_ble_eq_true rfl, Nat.le_of_ble_eq_true rfl⟩) hI.2 (fun q _ h => ga_sub hAC hA0 hI.2 q h) (ga_sub hAC hA0 hI.2) (fun v t H1 locs1 ht hWt hpost _ _ hS => ?_) (fun x t H1 locs1 ht hWt hpost _ _ hS => (hpost.2 x rfl).elim)
                    rcases hpost.1 _ rfl with ⟨hv, c188, c188_0, hI1⟩ | ⟨hv, c189, hI1⟩ | ⟨t_sh190, hv, c191, c191_0, c191_1, c191_2, hI1⟩
                    · omega
                    · cases hv
                      have hI : sI (dC, dI) vcl cI cJ (gsM a th tr dp zi co t_sh174 lt ts mf) A s.heap H1 locs1 := ⟨by rw [← ht]; exact hI1, hS⟩
                      clear hpost hI1 hS ht hWt
                      revert hI; generalize H1 = H; generalize locs1 = locs; intro hI
                      refine lv_goto (tgt := 14) hx hb d_Mo_showText_90 (by decide) ?_
                      exact ih _ _ _ z89 z157 z74 t_sh174 hI c189 (by omega) (by omega) (by omega) (by omega) (by omega) (by omega) (by omega) (by omega) (by omega) (by omega) (lv_sub hl [3, 4, 1, 0, 2] rfl) (by omega)
                    · cases hv
                      have hI : sI (dC, dI) vcl cI cJ (gsM a th tr dp zi co t_sh190 lt ts mf) A s.heap H1 locs1 := ⟨by rw [← ht]; exact hI1, hS⟩
                      obtain ⟨-, -, -, -, -, ⟨o192, o193⟩, -, -, -⟩ := id c191
                      clear hpost hI1 hS ht hWt
                      revert hI; generalize H1 = H; generalize locs1 = locs; intro hI
                      refine lv_goto (tgt := 14) hx hb d_Mo_showText_90 (by decide) ?_
                      exact ih _ _ _ z89 z157 z74 t_sh190 hI c191 (by omega) (by omega) (by omega) (by omega) (by omega) (by omega) (by omega) (by omega) (by omega) (by omega) (lv_sub hl [3, 4, 1, 0, 2] rfl) (by omega)
                · cases hv
                  have hI : sI (dC, dI) vcl cI cJ (gsM a th tr dp zi co t_sh166 lt ts mf) A s.heap H1 locs1 := ⟨by rw [← ht]; exact hI1, hS⟩
                  obtain ⟨-, -, -, -, -, ⟨o194, o195⟩, -, -, -⟩ := id c167
                  clear hpost hI1 hS ht hWt
                  revert hI; generalize H1 = H; generalize locs1 = locs; intro hI
                  refine lv_aload_n hx hb d_Mo_showText_69 rfl (lv_at hl 3 rfl) ?_
                  refine lv_iload hx hb d_Mo_showText_70 (lv_at hl 2 rfl) ?_
                  refine sn_bipush hx hb d_Mo_showText_72 (by decide) (fun z196 hz196 => ?_)
                  refine sn_idiv (k := 32) hx hb d_Mo_showText_74 (by omega) (by omega) (by omega) (fun z197 hz197 => ?_)
                  refine sn_bipush hx hb d_Mo_showText_75 (by decide) (fun z198 hz198 => ?_)
                  refine sn_irem (k := 32) hx hb d_Mo_showText_77 (by omega) (by omega) (by omega) (fun z199 hz199 => ?_)
                  refine tz_call (A1 := ga (adM a) H.size) (tz_runV (C := "StoryMachineModel") (As := [.int z199]) (rest := []) ⟨hx, hb, hml, hown, hts⟩ (c_Mo_letter l hfl dC dI cI cJ a H.size th tr dp zi co t_sh166 lt ts mf z199 c167 (by omega) (by omega) (by omega)) (tx_cb (n := 1) hts rfl rfl ⟨Nat.le_of_ble_eq_true rfl, Nat.le_of_ble_eq_true rfl⟩ (tx_code.of (hts _ mw_1406)) (hts _ mw_12) (by decide +kernel) (hts _ mw_1403)) (hts _ mw_1405) (hts _ ms_Mo_letter) ⟨tz_blind, sv_recv (q0 := 0) hts in_Mo hK hI kM_0 rfl, fun U hU hW => ⟨rfl, by rw [hU], by rw [hU]; exact hI.1, va_K.moved hW.alike hK, hst _ _ hI.2 U hU hW⟩⟩ rfl rfl hl.1 rfl (lv_room (Nat.le_of_ble_eq_true rfl)) d_Mo_showText_78 ⟨Nat.le_of_ble_eq_true rfl, Nat.le_of_ble_eq_true rfl⟩) hI.2 (fun q _ h => ga_sub hAC hA0 hI.2 q h) (ga_sub hAC hA0 hI.2) (fun v t H1 locs1 ht hWt hpost _ _ hS => ?_) (fun x t H1 locs1 ht hWt hpost _ _ hS => (hpost.2 x rfl).elim)
                  rcases hpost.1 _ rfl with ⟨hv, c200, c200_0, hI1⟩ | ⟨hv, c201, hI1⟩ | ⟨t_sh202, hv, c203, c203_0, c203_1, c203_2, hI1⟩
                  · omega
                  · cases hv
                    have hI : sI (dC, dI) vcl cI cJ (gsM a th tr dp zi co t_sh166 lt ts mf) A s.heap H1 locs1 := ⟨by rw [← ht]; exact hI1, hS⟩
                    clear hpost hI1 hS ht hWt
                    revert hI; generalize H1 = H; generalize locs1 = locs; intro hI
                    refine lv_aload_n hx hb d_Mo_showText_81 rfl (lv_at hl 3 rfl) ?_
                    refine lv_iload hx hb d_Mo_showText_82 (lv_at hl 2 rfl) ?_
                    refine sn_bipush hx hb d_Mo_showText_84 (by decide) (fun z204 hz204 => ?_)
                    refine sn_irem (k := 32) hx hb d_Mo_showText_86 (by omega) (by omega) (by omega) (fun z205 hz205 => ?_)
                    refine tz_call (A1 := ga (adM a) H.size) (tz_runV (C := "StoryMachineModel") (As := [.int z205]) (rest := []) ⟨hx, hb, hml, hown, hts⟩ (c_Mo_letter l hfl dC dI cI cJ a H.size th tr dp zi co t_sh166 lt ts mf z205 c201 (by omega) (by omega) (by omega)) (tx_cb (n := 1) hts rfl rfl ⟨Nat.le_of_ble_eq_true rfl, Nat.le_of_ble_eq_true rfl⟩ (tx_code.of (hts _ mw_1406)) (hts _ mw_12) (by decide +kernel) (hts _ mw_1403)) (hts _ mw_1405) (hts _ ms_Mo_letter) ⟨tz_blind, sv_recv (q0 := 0) hts in_Mo hK hI kM_0 rfl, fun U hU hW => ⟨rfl, by rw [hU], by rw [hU]; exact hI.1, va_K.moved hW.alike hK, hst _ _ hI.2 U hU hW⟩⟩ rfl rfl hl.1 rfl (lv_room (Nat.le_of_ble_eq_true rfl)) d_Mo_showText_87 ⟨Nat.le_of_ble_eq_true rfl, Nat.le_of_ble_eq_true rfl⟩) hI.2 (fun q _ h => ga_sub hAC hA0 hI.2 q h) (ga_sub hAC hA0 hI.2) (fun v t H1 locs1 ht hWt hpost _ _ hS => ?_) (fun x t H1 locs1 ht hWt hpost _ _ hS => (hpost.2 x rfl).elim)
                    rcases hpost.1 _ rfl with ⟨hv, c206, c206_0, hI1⟩ | ⟨hv, c207, hI1⟩ | ⟨t_sh208, hv, c209, c209_0, c209_1, c209_2, hI1⟩
                    · omega
                    · cases hv
                      have hI : sI (dC, dI) vcl cI cJ (gsM a th tr dp zi co t_sh166 lt ts mf) A s.heap H1 locs1 := ⟨by rw [← ht]; exact hI1, hS⟩
                      clear hpost hI1 hS ht hWt
                      revert hI; generalize H1 = H; generalize locs1 = locs; intro hI
                      refine lv_goto (tgt := 14) hx hb d_Mo_showText_90 (by decide) ?_
                      exact ih _ _ _ z89 z157 z74 t_sh166 hI c207 (by omega) (by omega) (by omega) (by omega) (by omega) (by omega) (by omega) (by omega) (by omega) (by omega) (lv_sub hl [3, 4, 1, 0, 2] rfl) (by omega)
                    · cases hv
                      have hI : sI (dC, dI) vcl cI cJ (gsM a th tr dp zi co t_sh208 lt ts mf) A s.heap H1 locs1 := ⟨by rw [← ht]; exact hI1, hS⟩
                      obtain ⟨-, -, -, -, -, ⟨o210, o211⟩, -, -, -⟩ := id c209
                      clear hpost hI1 hS ht hWt
                      revert hI; generalize H1 = H; generalize locs1 = locs; intro hI
                      refine lv_goto (tgt := 14) hx hb d_Mo_showText_90 (by decide) ?_
                      exact ih _ _ _ z89 z157 z74 t_sh208 hI c209 (by omega) (by omega) (by omega) (by omega) (by omega) (by omega) (by omega) (by omega) (by omega) (by omega) (lv_sub hl [3, 4, 1, 0, 2] rfl) (by omega)
                  · cases hv
                    have hI : sI (dC, dI) vcl cI cJ (gsM a th tr dp zi co t_sh202 lt ts mf) A s.heap H1 locs1 := ⟨by rw [← ht]; exact hI1, hS⟩
                    obtain ⟨-, -, -, -, -, ⟨o212, o213⟩, -, -, -⟩ := id c203
                    clear hpost hI1 hS ht hWt
                    revert hI; generalize H1 = H; generalize locs1 = locs; intro hI
                    refine lv_aload_n hx hb d_Mo_showText_81 rfl (lv_at hl 3 rfl) ?_
                    refine lv_iload hx hb d_Mo_showText_82 (lv_at hl 2 rfl) ?_
                    refine sn_bipush hx hb d_Mo_showText_84 (by decide) (fun z214 hz214 => ?_)
                    refine sn_irem (k := 32) hx hb d_Mo_showText_86 (by omega) (by omega) (by omega) (fun z215 hz215 => ?_)
                    refine tz_call (A1 := ga (adM a) H.size) (tz_runV (C := "StoryMachineModel") (As := [.int z215]) (rest := []) ⟨hx, hb, hml, hown, hts⟩ (c_Mo_letter l hfl dC dI cI cJ a H.size th tr dp zi co t_sh202 lt ts mf z215 c203 (by omega) (by omega) (by omega)) (tx_cb (n := 1) hts rfl rfl ⟨Nat.le_of_ble_eq_true rfl, Nat.le_of_ble_eq_true rfl⟩ (tx_code.of (hts _ mw_1406)) (hts _ mw_12) (by decide +kernel) (hts _ mw_1403)) (hts _ mw_1405) (hts _ ms_Mo_letter) ⟨tz_blind, sv_recv (q0 := 0) hts in_Mo hK hI kM_0 rfl, fun U hU hW => ⟨rfl, by rw [hU], by rw [hU]; exact hI.1, va_K.moved hW.alike hK, hst _ _ hI.2 U hU hW⟩⟩ rfl rfl hl.1 rfl (lv_room (Nat.le_of_ble_eq_true rfl)) d_Mo_showText_87 ⟨Nat.le_of_ble_eq_true rfl, Nat.le_of_ble_eq_true rfl⟩) hI.2 (fun q _ h => ga_sub hAC hA0 hI.2 q h) (ga_sub hAC hA0 hI.2) (fun v t H1 locs1 ht hWt hpost _ _ hS => ?_) (fun x t H1 locs1 ht hWt hpost _ _ hS => (hpost.2 x rfl).elim)
                    rcases hpost.1 _ rfl with ⟨hv, c216, c216_0, hI1⟩ | ⟨hv, c217, hI1⟩ | ⟨t_sh218, hv, c219, c219_0, c219_1, c219_2, hI1⟩
                    · omega
                    · cases hv
                      have hI : sI (dC, dI) vcl cI cJ (gsM a th tr dp zi co t_sh202 lt ts mf) A s.heap H1 locs1 := ⟨by rw [← ht]; exact hI1, hS⟩
                      clear hpost hI1 hS ht hWt
                      revert hI; generalize H1 = H; generalize locs1 = locs; intro hI
                      refine lv_goto (tgt := 14) hx hb d_Mo_showText_90 (by decide) ?_
                      exact ih _ _ _ z89 z157 z74 t_sh202 hI c217 (by omega) (by omega) (by omega) (by omega) (by omega) (by omega) (by omega) (by omega) (by omega) (by omega) (lv_sub hl [3, 4, 1, 0, 2] rfl) (by omega)
                    · cases hv
                      have hI : sI (dC, dI) vcl cI cJ (gsM a th tr dp zi co t_sh218 lt ts mf) A s.heap H1 locs1 := ⟨by rw [← ht]; exact hI1, hS⟩
                      obtain ⟨-, -, -, -, -, ⟨o220, o221⟩, -, -, -⟩ := id c219
                      clear hpost hI1 hS ht hWt
                      revert hI; generalize H1 = H; generalize locs1 = locs; intro hI
                      refine lv_goto (tgt := 14) hx hb d_Mo_showText_90 (by decide) ?_
                      exact ih _ _ _ z89 z157 z74 t_sh218 hI c219 (by omega) (by omega) (by omega) (by omega) (by omega) (by omega) (by omega) (by omega) (by omega) (by omega) (lv_sub hl [3, 4, 1, 0, 2] rfl) (by omega)
  have j14u : ∀ (H : Heap) (locs : List Loc) (ls : Array Slot) (v14u_3 : Int32), sI (dC, dI) vcl cI cJ (gsM a th tr dp zi co sh lt ts mf) A s.heap H locs → okM th tr dp zi co sh lt ts mf → 1 ≤ v14u_3.toInt → v14u_3.toInt ≤ 1 → sh = sh → lv_has ls 5 [(0, .ref (a 0)), (1, .int x1), (2, .int x1), (3, .int v14u_3)] → W p l e (headSpec tw_tbl rm_Mo_showText).room s m ([.ref (a 0), .int x1] : List Value).toArray below meth c H locs 0 0 Z (F0 m 14 ls []) := by
    intro H locs ls v14u_3 hI hok g14_0 g14_1 g14_2 hl
    obtain ⟨⟨o222, o223⟩, ⟨o224, o225⟩, ⟨o226, o227⟩, ⟨o228, o229⟩, ⟨o230, o231⟩, ⟨o232, o233⟩, ⟨o234, o235⟩, ⟨o236, o237⟩, -⟩ := id hok
    refine lv_iload_n hx hb d_Mo_showText_14 rfl (lv_at hl 3 rfl) ?_
    refine sn_if_eq (tgt := 93) hx hb d_Mo_showText_15 (by decide) (fun b238 => ?_) (fun b238 => ?_)
    · omega
    · refine lv_aload_n hx hb d_Mo_showText_18 rfl (lv_at hl 0 rfl) ?_
      refine sv_gete (C := "StoryMachineModel") (T := T_Mo) (N := 51) hx hb hts in_Mo hown hK hI 0 kM_0 rfl 25 (by decide) (hts _ mw_1088) rfl d_Mo_showText_19 (fun z239 hz239 => ?_)
      refine sn_if_ne (tgt := 93) hx hb d_Mo_showText_22 (by decide) (fun b240 => ?_) (fun b240 => ?_)
      · refine lv_iload_n hx hb d_Mo_showText_93 rfl (lv_at hl 2 rfl) ?_
        subst hZ
        exact tz_ret (W.iret (v := x1) hx hb hr (fun t ht hW => ⟨⟨fun v9 hv9 => by cases hv9; exact (Or.inl ⟨x1, tr, sh, rfl, hok, by omega, by omega, by omega, by omega, by rw [ht]; exact hI.1⟩), fun x9 hx9 => (by cases hx9)⟩, hI.2.F ht⟩) hI.2.2.2 d_Mo_showText_94)
      · refine lv_aload_n hx hb d_Mo_showText_25 rfl (lv_at hl 0 rfl) ?_
        refine lv_iload_n hx hb d_Mo_showText_26 rfl (lv_at hl 2 rfl) ?_
        refine tz_call (A1 := ga (adM a) H.size) (tz_runV (C := "StoryMachineModel") (As := [.int x1]) (rest := []) ⟨hx, hb, hml, hown, hts⟩ (c_Mo_wordAt l hfl dC dI cI cJ a H.size th tr dp zi co sh lt ts mf x1 hok) (tx_cb (n := 1) hts rfl rfl ⟨Nat.le_of_ble_eq_true rfl, Nat.le_of_ble_eq_true rfl⟩ (tx_code.of (hts _ mw_1252)) (hts _ mw_12) (by decide +kernel) (hts _ mw_1249)) (hts _ mw_1251) (hts _ ms_Mo_wordAt) ⟨tz_blind, sv_recv (q0 := 0) hts in_Mo hK hI kM_0 rfl, fun U hU hW => ⟨rfl, by rw [hU], by rw [hU]; exact hI.1, va_K.moved hW.alike hK, hst _ _ hI.2 U hU hW⟩⟩ rfl rfl hl.1 rfl (lv_room (Nat.le_of_ble_eq_true rfl)) d_Mo_showText_27 ⟨Nat.le_of_ble_eq_true rfl, Nat.le_of_ble_eq_true rfl⟩) hI.2 (fun q _ h => ga_sub hAC hA0 hI.2 q h) (ga_sub hAC hA0 hI.2) (fun v t H1 locs1 ht hWt hpost _ _ hS => ?_) (fun x t H1 locs1 ht hWt hpost _ _ hS => (hpost.2 x rfl).elim)
        rcases hpost.1 _ rfl with ⟨z241, t_tr242, hv, c243, c243_0, c243_1, c243_2, hI1⟩ | ⟨z244, hv, c245, c245_0, c245_1, c245_2, c245_3, c245_4, hI1⟩
        · cases hv
          have hI : sI (dC, dI) vcl cI cJ (gsM a th t_tr242 dp zi co sh lt ts mf) A s.heap H1 locs1 := ⟨by rw [← ht]; exact hI1, hS⟩
          obtain ⟨-, ⟨o246, o247⟩, -, -, -, -, -, -, -⟩ := id c243
          clear hpost hI1 hS ht hWt
          revert hI; generalize H1 = H; generalize locs1 = locs; intro hI
          refine lv_istore (lv' := [(4, .int z241), (0, .ref (a 0)), (1, .int x1), (2, .int x1), (3, .int v14u_3)]) hx hb d_Mo_showText_30 hl (by decide) rfl (fun ls hl => ?_)
          refine lv_iload_n hx hb d_Mo_showText_32 rfl (lv_at hl 3 rfl) ?_
          refine sn_iconst hx hb d_Mo_showText_33 (by decide) (fun z248 hz248 => ?_)
          refine sn_iaddT hx hb d_Mo_showText_34 (fun z249 hz249a hz249b => ?_)
          refine lv_istore_n (lv' := [(2, .int z249), (4, .int z241), (0, .ref (a 0)), (1, .int x1), (3, .int v14u_3)]) hx hb d_Mo_showText_35 rfl hl (by decide) rfl (fun ls hl => ?_)
          refine lv_iload hx hb d_Mo_showText_36 (lv_at hl 1 rfl) ?_
          refine sn_ldc (n := 32768) hx hb hown (hts _ mw_1402) d_Mo_showText_38 (by decide) (fun z250 hz250 => ?_)
          refine sn_icmp_ge (tgt := 47) hx hb d_Mo_showText_40 (by decide) (fun b251 => ?_) (fun b251 => ?_)
          · refine sn_iconst hx hb d_Mo_showText_47 (by decide) (fun z252 hz252 => ?_)
            refine lv_istore_n (lv' := [(3, .int z252), (2, .int z249), (4, .int z241), (0, .ref (a 0)), (1, .int x1)]) hx hb d_Mo_showText_48 rfl hl (by decide) rfl (fun ls hl => ?_)
            refine lv_aload_n hx hb d_Mo_showText_49 rfl (lv_at hl 3 rfl) ?_
            refine sv_gete (C := "StoryMachineModel") (T := T_Mo) (N := 51) hx hb hts in_Mo hown hK hI 0 kM_0 rfl 25 (by decide) (hts _ mw_1088) rfl d_Mo_showText_50 (fun z253 hz253 => ?_)
            refine sn_if_ne (tgt := 90) hx hb d_Mo_showText_53 (by decide) (fun b254 => ?_) (fun b254 => ?_)
            · refine lv_goto (tgt := 14) hx hb d_Mo_showText_90 (by decide) ?_
              exact j14p _ _ _ z249 z252 z241 t_tr242 sh hI c243 (by omega) (by omega) (by omega) (by omega) (by omega) (by omega) (by omega) (by omega) (by omega) (by omega) (lv_sub hl [3, 4, 1, 0, 2] rfl)
            · omega
          · refine sn_iconst hx hb d_Mo_showText_43 (by decide) (fun z255 hz255 => ?_)
            refine lv_goto (tgt := 48) hx hb d_Mo_showText_44 (by decide) ?_
            refine lv_istore_n (lv' := [(3, .int z255), (2, .int z249), (4, .int z241), (0, .ref (a 0)), (1, .int x1)]) hx hb d_Mo_showText_48 rfl hl (by decide) rfl (fun ls hl => ?_)
            refine lv_aload_n hx hb d_Mo_showText_49 rfl (lv_at hl 3 rfl) ?_
            refine sv_gete (C := "StoryMachineModel") (T := T_Mo) (N := 51) hx hb hts in_Mo hown hK hI 0 kM_0 rfl 25 (by decide) (hts _ mw_1088) rfl d_Mo_showText_50 (fun z256 hz256 => ?_)
            refine sn_if_ne (tgt := 90) hx hb d_Mo_showText_53 (by decide) (fun b257 => ?_) (fun b257 => ?_)
            · refine lv_goto (tgt := 14) hx hb d_Mo_showText_90 (by decide) ?_
              exact j14p _ _ _ z249 z255 z241 t_tr242 sh hI c243 (by omega) (by omega) (by omega) (by omega) (by omega) (by omega) (by omega) (by omega) (by omega) (by omega) (lv_sub hl [3, 4, 1, 0, 2] rfl)
            · omega
        · cases hv
          have hI : sI (dC, dI) vcl cI cJ (gsM a th tr dp zi co sh lt ts mf) A s.heap H1 locs1 := ⟨by rw [← ht]; exact hI1, hS⟩
          clear hpost hI1 hS ht hWt
          revert hI; generalize H1 = H; generalize locs1 = locs; intro hI
          refine lv_istore (lv' := [(4, .int z244), (0, .ref (a 0)), (1, .int x1), (2, .int x1), (3, .int v14u_3)]) hx hb d_Mo_showText_30 hl (by decide) rfl (fun ls hl => ?_)
          refine lv_iload_n hx hb d_Mo_showText_32 rfl (lv_at hl 3 rfl) ?_
          refine sn_iconst hx hb d_Mo_showText_33 (by decide) (fun z258 hz258 => ?_)
          refine sn_iadd hx hb d_Mo_showText_34 (by omega) (by omega) (fun z259 hz259 => ?_)
          refine lv_istore_n (lv' := [(2, .int z259), (4, .int z244), (0, .ref (a 0)), (1, .int x1), (3, .int v14u_3)]) hx hb d_Mo_showText_35 rfl hl (by decide) rfl (fun ls hl => ?_)
          refine lv_iload hx hb d_Mo_showText_36 (lv_at hl 1 rfl) ?_
          refine sn_ldc (n := 32768) hx hb hown (hts _ mw_1402) d_Mo_showText_38 (by decide) (fun z260 hz260 => ?_)
          refine sn_icmp_ge (tgt := 47) hx hb d_Mo_showText_40 (by decide) (fun b261 => ?_) (fun b261 => ?_)
          · refine sn_iconst hx hb d_Mo_showText_47 (by decide) (fun z262 hz262 => ?_)
            refine lv_istore_n (lv' := [(3, .int z262), (2, .int z259), (4, .int z244), (0, .ref (a 0)), (1, .int x1)]) hx hb d_Mo_showText_48 rfl hl (by decide) rfl (fun ls hl => ?_)
            refine lv_aload_n hx hb d_Mo_showText_49 rfl (lv_at hl 3 rfl) ?_
            refine sv_gete (C := "StoryMachineModel") (T := T_Mo) (N := 51) hx hb hts in_Mo hown hK hI 0 kM_0 rfl 25 (by decide) (hts _ mw_1088) rfl d_Mo_showText_50 (fun z263 hz263 => ?_)
            refine sn_if_ne (tgt := 90) hx hb d_Mo_showText_53 (by decide) (fun b264 => ?_) (fun b264 => ?_)
            · omega
            · refine lv_aload_n hx hb d_Mo_showText_56 rfl (lv_at hl 3 rfl) ?_
              refine lv_iload hx hb d_Mo_showText_57 (lv_at hl 2 rfl) ?_
              refine sn_sipush hx hb d_Mo_showText_59 (by decide) (fun z265 hz265 => ?_)
              refine sn_idiv (k := 1024) hx hb d_Mo_showText_62 (by omega) (by omega) (by omega) (fun z266 hz266 => ?_)
              refine sn_bipush hx hb d_Mo_showText_63 (by decide) (fun z267 hz267 => ?_)
              refine sn_irem (k := 32) hx hb d_Mo_showText_65 (by omega) (by omega) (by omega) (fun z268 hz268 => ?_)
              refine tz_call (A1 := ga (adM a) H.size) (tz_runV (C := "StoryMachineModel") (As := [.int z268]) (rest := []) ⟨hx, hb, hml, hown, hts⟩ (c_Mo_letter l hfl dC dI cI cJ a H.size th tr dp zi co sh lt ts mf z268 c245 (by omega) (by omega) (by omega)) (tx_cb (n := 1) hts rfl rfl ⟨Nat.le_of_ble_eq_true rfl, Nat.le_of_ble_eq_true rfl⟩ (tx_code.of (hts _ mw_1406)) (hts _ mw_12) (by decide +kernel) (hts _ mw_1403)) (hts _ mw_1405) (hts _ ms_Mo_letter) ⟨tz_blind, sv_recv (q0 := 0) hts in_Mo hK hI kM_0 rfl, fun U hU hW => ⟨rfl, by rw [hU], by rw [hU]; exact hI.1, va_K.moved hW.alike hK, hst _ _ hI.2 U hU hW⟩⟩ rfl rfl hl.1 rfl (lv_room (Nat.le_of_ble_eq_true rfl)) d_Mo_showText_66 ⟨Nat.le_of_ble_eq_true rfl, Nat.le_of_ble_eq_true rfl⟩) hI.2 (fun q _ h => ga_sub hAC hA0 hI.2 q h) (ga_sub hAC hA0 hI.2) (fun v t H1 locs1 ht hWt hpost _ _ hS => ?_) (fun x t H1 locs1 ht hWt hpost _ _ hS => (hpost.2 x rfl).elim)
              rcases hpost.1 _ rfl with ⟨hv, c269, c269_0, hI1⟩ | ⟨hv, c270, hI1⟩ | ⟨t_sh271, hv, c272, c272_0, c272_1, c272_2, hI1⟩
              · omega
              · cases hv
                have hI : sI (dC, dI) vcl cI cJ (gsM a th tr dp zi co sh lt ts mf) A s.heap H1 locs1 := ⟨by rw [← ht]; exact hI1, hS⟩
                clear hpost hI1 hS ht hWt
                revert hI; generalize H1 = H; generalize locs1 = locs; intro hI
                refine lv_aload_n hx hb d_Mo_showText_69 rfl (lv_at hl 3 rfl) ?_
                refine lv_iload hx hb d_Mo_showText_70 (lv_at hl 2 rfl) ?_
                refine sn_bipush hx hb d_Mo_showText_72 (by decide) (fun z273 hz273 => ?_)
                refine sn_idiv (k := 32) hx hb d_Mo_showText_74 (by omega) (by omega) (by omega) (fun z274 hz274 => ?_)
                refine sn_bipush hx hb d_Mo_showText_75 (by decide) (fun z275 hz275 => ?_)
                refine sn_irem (k := 32) hx hb d_Mo_showText_77 (by omega) (by omega) (by omega) (fun z276 hz276 => ?_)
                refine tz_call (A1 := ga (adM a) H.size) (tz_runV (C := "StoryMachineModel") (As := [.int z276]) (rest := []) ⟨hx, hb, hml, hown, hts⟩ (c_Mo_letter l hfl dC dI cI cJ a H.size th tr dp zi co sh lt ts mf z276 c270 (by omega) (by omega) (by omega)) (tx_cb (n := 1) hts rfl rfl ⟨Nat.le_of_ble_eq_true rfl, Nat.le_of_ble_eq_true rfl⟩ (tx_code.of (hts _ mw_1406)) (hts _ mw_12) (by decide +kernel) (hts _ mw_1403)) (hts _ mw_1405) (hts _ ms_Mo_letter) ⟨tz_blind, sv_recv (q0 := 0) hts in_Mo hK hI kM_0 rfl, fun U hU hW => ⟨rfl, by rw [hU], by rw [hU]; exact hI.1, va_K.moved hW.alike hK, hst _ _ hI.2 U hU hW⟩⟩ rfl rfl hl.1 rfl (lv_room (Nat.le_of_ble_eq_true rfl)) d_Mo_showText_78 ⟨Nat.le_of_ble_eq_true rfl, Nat.le_of_ble_eq_true rfl⟩) hI.2 (fun q _ h => ga_sub hAC hA0 hI.2 q h) (ga_sub hAC hA0 hI.2) (fun v t H1 locs1 ht hWt hpost _ _ hS => ?_) (fun x t H1 locs1 ht hWt hpost _ _ hS => (hpost.2 x rfl).elim)
                rcases hpost.1 _ rfl with ⟨hv, c277, c277_0, hI1⟩ | ⟨hv, c278, hI1⟩ | ⟨t_sh279, hv, c280, c280_0, c280_1, c280_2, hI1⟩
                · omega
                · cases hv
                  have hI : sI (dC, dI) vcl cI cJ (gsM a th tr dp zi co sh lt ts mf) A s.heap H1 locs1 := ⟨by rw [← ht]; exact hI1, hS⟩
                  clear hpost hI1 hS ht hWt
                  revert hI; generalize H1 = H; generalize locs1 = locs; intro hI
                  refine lv_aload_n hx hb d_Mo_showText_81 rfl (lv_at hl 3 rfl) ?_
                  refine lv_iload hx hb d_Mo_showText_82 (lv_at hl 2 rfl) ?_
                  refine sn_bipush hx hb d_Mo_showText_84 (by decide) (fun z281 hz281 => ?_)
                  refine sn_irem (k := 32) hx hb d_Mo_showText_86 (by omega) (by omega) (by omega) (fun z282 hz282 => ?_)
                  refine tz_call (A1 := ga (adM a) H.size) (tz_runV (C := "StoryMachineModel") (As := [.int z282]) (rest := []) ⟨hx, hb, hml, hown, hts⟩ (c_Mo_letter l hfl dC dI cI cJ a H.size th tr dp zi co sh lt ts mf z282 c278 (by omega) (by omega) (by omega)) (tx_cb (n := 1) hts rfl rfl ⟨Nat.le_of_ble_eq_true rfl, Nat.le_of_ble_eq_true rfl⟩ (tx_code.of (hts _ mw_1406)) (hts _ mw_12) (by decide +kernel) (hts _ mw_1403)) (hts _ mw_1405) (hts _ ms_Mo_letter) ⟨tz_blind, sv_recv (q0 := 0) hts in_Mo hK hI kM_0 rfl, fun U hU hW => ⟨rfl, by rw [hU], by rw [hU]; exact hI.1, va_K.moved hW.alike hK, hst _ _ hI.2 U hU hW⟩⟩ rfl rfl hl.1 rfl (lv_room (Nat.le_of_ble_eq_true rfl)) d_Mo_showText_87 ⟨Nat.le_of_ble_eq_true rfl, Nat.le_of_ble_eq_true rfl⟩) hI.2 (fun q _ h => ga_sub hAC hA0 hI.2 q h) (ga_sub hAC hA0 hI.2) (fun v t H1 locs1 ht hWt hpost _ _ hS => ?_) (fun x t H1 locs1 ht hWt hpost _ _ hS => (hpost.2 x rfl).elim)
                  rcases hpost.1 _ rfl with ⟨hv, c283, c283_0, hI1⟩ | ⟨hv, c284, hI1⟩ | ⟨t_sh285, hv, c286, c286_0, c286_1, c286_2, hI1⟩
                  · omega
                  · cases hv
                    have hI : sI (dC, dI) vcl cI cJ (gsM a th tr dp zi co sh lt ts mf) A s.heap H1 locs1 := ⟨by rw [← ht]; exact hI1, hS⟩
                    clear hpost hI1 hS ht hWt
                    revert hI; generalize H1 = H; generalize locs1 = locs; intro hI
                    refine lv_goto (tgt := 14) hx hb d_Mo_showText_90 (by decide) ?_
                    exact j14z 515 _ _ _ z259 z262 z244 sh hI c284 (by omega) (by omega) (by omega) (by omega) (by omega) (by omega) (by omega) (by omega) (by omega) (by omega) (lv_sub hl [3, 4, 1, 0, 2] rfl) (by omega)
                  · cases hv
                    have hI : sI (dC, dI) vcl cI cJ (gsM a th tr dp zi co t_sh285 lt ts mf) A s.heap H1 locs1 := ⟨by rw [← ht]; exact hI1, hS⟩
                    obtain ⟨-, -, -, -, -, ⟨o287, o288⟩, -, -, -⟩ := id c286
                    clear hpost hI1 hS ht hWt
                    revert hI; generalize H1 = H; generalize locs1 = locs; intro hI
                    refine lv_goto (tgt := 14) hx hb d_Mo_showText_90 (by decide) ?_
                    exact j14z 515 _ _ _ z259 z262 z244 t_sh285 hI c286 (by omega) (by omega) (by omega) (by omega) (by omega) (by omega) (by omega) (by omega) (by omega) (by omega) (lv_sub hl [3, 4, 1, 0, 2] rfl) (by omega)
                · cases hv
                  have hI : sI (dC, dI) vcl cI cJ (gsM a th tr dp zi co t_sh279 lt ts mf) A s.heap H1 locs1 := ⟨by rw [← ht]; exact hI1, hS⟩
                  obtain ⟨-, -, -, -, -, ⟨o289, o290⟩, -, -, -⟩ := id c280
                  clear hpost hI1 hS ht hWt
                  revert hI; generalize H1 = H; generalize locs1 = locs; intro hI
                  refine lv_aload_n hx hb d_Mo_showText_81 rfl (lv_at hl 3 rfl) ?_
                  refine lv_iload hx hb d_Mo_showText_82 (lv_at hl 2 rfl) ?_
                  refine sn_bipush hx hb d_Mo_showText_84 (by decide) (fun z291 hz291 => ?_)
                  refine sn_irem (k := 32) hx hb d_Mo_showText_86 (by omega) (by omega) (by omega) (fun z292 hz292 => ?_)
                  refine tz_call (A1 := ga (adM a) H.size) (tz_runV (C := "StoryMachineModel") (As := [.int z292]) (rest := []) ⟨hx, hb, hml, hown, hts⟩ (c_Mo_letter l hfl dC dI cI cJ a H.size th tr dp zi co t_sh279 lt ts mf z292 c280 (by omega) (by omega) (by omega)) (tx_cb (n := 1) hts rfl rfl ⟨Nat.le_of_ble_eq_true rfl, Nat.le_of_ble_eq_true rfl⟩ (tx_code.of (hts _ mw_1406)) (hts _ mw_12) (by decide +kernel) (hts _ mw_1403)) (hts _ mw_1405) (hts _ ms_Mo_letter) ⟨tz_blind, sv_recv (q0 := 0) hts in_Mo hK hI kM_0 rfl, fun U hU hW => ⟨rfl, by rw [hU], by rw [hU]; exact hI.1, va_K.moved hW.alike hK, hst _ _ hI.2 U hU hW⟩⟩ rfl rfl hl.1 rfl (lv_room (Nat.le_of_ble_eq_true rfl)) d_Mo_showText_87 ⟨Nat.le_of_ble_eq_true rfl, Nat.le_of_ble_eq_true rfl⟩) hI.2 (fun q _ h => ga_sub hAC hA0 hI.2 q h) (ga_sub hAC hA0 hI.2) (fun v t H1 locs1 ht hWt hpost _ _ hS => ?_) (fun x t H1 locs1 ht hWt hpost _ _ hS => (hpost.2 x rfl).elim)
                  rcases hpost.1 _ rfl with ⟨hv, c293, c293_0, hI1⟩ | ⟨hv, c294, hI1⟩ | ⟨t_sh295, hv, c296, c296_0, c296_1, c296_2, hI1⟩
                  · omega
                  · cases hv
                    have hI : sI (dC, dI) vcl cI cJ (gsM a th tr dp zi co t_sh279 lt ts mf) A s.heap H1 locs1 := ⟨by rw [← ht]; exact hI1, hS⟩
                    clear hpost hI1 hS ht hWt
                    revert hI; generalize H1 = H; generalize locs1 = locs; intro hI
                    refine lv_goto (tgt := 14) hx hb d_Mo_showText_90 (by decide) ?_
                    exact j14z 515 _ _ _ z259 z262 z244 t_sh279 hI c294 (by omega) (by omega) (by omega) (by omega) (by omega) (by omega) (by omega) (by omega) (by omega) (by omega) (lv_sub hl [3, 4, 1, 0, 2] rfl) (by omega)
                  · cases hv
                    have hI : sI (dC, dI) vcl cI cJ (gsM a th tr dp zi co t_sh295 lt ts mf) A s.heap H1 locs1 := ⟨by rw [← ht]; exact hI1, hS⟩
                    obtain ⟨-, -, -, -, -, ⟨o297, o298⟩, -, -, -⟩ := id c296
                    clear hpost hI1 hS ht hWt
                    revert hI; generalize H1 = H; generalize locs1 = locs; intro hI
                    refine lv_goto (tgt := 14) hx hb d_Mo_showText_90 (by decide) ?_
                    exact j14z 515 _ _ _ z259 z262 z244 t_sh295 hI c296 (by omega) (by omega) (by omega) (by omega) (by omega) (by omega) (by omega) (by omega) (by omega) (by omega) (lv_sub hl [3, 4, 1, 0, 2] rfl) (by omega)
              · cases hv
                have hI : sI (dC, dI) vcl cI cJ (gsM a th tr dp zi co t_sh271 lt ts mf) A s.heap H1 locs1 := ⟨by rw [← ht]; exact hI1, hS⟩
                obtain ⟨-, -, -, -, -, ⟨o299, o300⟩, -, -, -⟩ := id c272
                clear hpost hI1 hS ht hWt
                revert hI; generalize H1 = H; generalize locs1 = locs; intro hI
                refine lv_aload_n hx hb d_Mo_showText_69 rfl (lv_at hl 3 rfl) ?_
                refine lv_iload hx hb d_Mo_showText_70 (lv_at hl 2 rfl) ?_
                refine sn_bipush hx hb d_Mo_showText_72 (by decide) (fun z301 hz301 => ?_)
                refine sn_idiv (k := 32) hx hb d_Mo_showText_74 (by omega) (by omega) (by omega) (fun z302 hz302 => ?_)
                refine sn_bipush hx hb d_Mo_showText_75 (by decide) (fun z303 hz303 => ?_)
                refine sn_irem (k := 32) hx hb d_Mo_showText_77 (by omega) (by omega) (by omega) (fun z304 hz304 => ?_)
                refine tz_call (A1 := ga (adM a) H.size) (tz_runV (C := "StoryMachineModel") (As := [.int z304]) (rest := []) ⟨hx, hb, hml, hown, hts⟩ (c_Mo_letter l hfl dC dI cI cJ a H.size th tr dp zi co t_sh271 lt ts mf z304 c272 (by omega) (by omega) (by omega)) (tx_cb (n := 1) hts rfl rfl ⟨Nat.le_of_ble_eq_true rfl, Nat.le_of_ble_eq_true rfl⟩ (tx_code.of (hts _ mw_1406)) (hts _ mw_12) (by decide +kernel) (hts _ mw_1403)) (hts _ mw_1405) (hts _ ms_Mo_letter) ⟨tz_blind, sv_recv (q0 := 0) hts in_Mo hK hI kM_0 rfl, fun U hU hW => ⟨rfl, by rw [hU], by rw [hU]; exact hI.1, va_K.moved hW.alike hK, hst _ _ hI.2 U hU hW⟩⟩ rfl rfl hl.1 rfl (lv_room (Nat.le_of_ble_eq_true rfl)) d_Mo_showText_78 ⟨Nat.le_of_ble_eq_true rfl, Nat.le_of_ble_eq_true rfl⟩) hI.2 (fun q _ h => ga_sub hAC hA0 hI.2 q h) (ga_sub hAC hA0 hI.2) (fun v t H1 locs1 ht hWt hpost _ _ hS => ?_) (fun x t H1 locs1 ht hWt hpost _ _ hS => (hpost.2 x rfl).elim)
                rcases hpost.1 _ rfl with ⟨hv, c305, c305_0, hI1⟩ | ⟨hv, c306, hI1⟩ | ⟨t_sh307, hv, c308, c308_0, c308_1, c308_2, hI1⟩
                · omega
                · cases hv
                  have hI : sI (dC, dI) vcl cI cJ (gsM a th tr dp zi co t_sh271 lt ts mf) A s.heap H1 locs1 := ⟨by rw [← ht]; exact hI1, hS⟩
                  clear hpost hI1 hS ht hWt
                  revert hI; generalize H1 = H; generalize locs1 = locs; intro hI
                  refine lv_aload_n hx hb d_Mo_showText_81 rfl (lv_at hl 3 rfl) ?_
                  refine lv_iload hx hb d_Mo_showText_82 (lv_at hl 2 rfl) ?_
                  refine sn_bipush hx hb d_Mo_showText_84 (by decide) (fun z309 hz309 => ?_)
                  refine sn_irem (k := 32) hx hb d_Mo_showText_86 (by omega) (by omega) (by omega) (fun z310 hz310 => ?_)
                  refine tz_call (A1 := ga (adM a) H.size) (tz_runV (C := "StoryMachineModel") (As := [.int z310]) (rest := []) ⟨hx, hb, hml, hown, hts⟩ (c_Mo_letter l hfl dC dI cI cJ a H.size th tr dp zi co t_sh271 lt ts mf z310 c306 (by omega) (by omega) (by omega)) (tx_cb (n := 1) hts rfl rfl ⟨Nat.le_of_ble_eq_true rfl, Nat.le_of_ble_eq_true rfl⟩ (tx_code.of (hts _ mw_1406)) (hts _ mw_12) (by decide +kernel) (hts _ mw_1403)) (hts _ mw_1405) (hts _ ms_Mo_letter) ⟨tz_blind, sv_recv (q0 := 0) hts in_Mo hK hI kM_0 rfl, fun U hU hW => ⟨rfl, by rw [hU], by rw [hU]; exact hI.1, va_K.moved hW.alike hK, hst _ _ hI.2 U hU hW⟩⟩ rfl rfl hl.1 rfl (lv_room (Nat.le_of_ble_eq_true rfl)) d_Mo_showText_87 ⟨Nat.le_of_ble_eq_true rfl, Nat.le_of_ble_eq_true rfl⟩) hI.2 (fun q _ h => ga_sub hAC hA0 hI.2 q h) (ga_sub hAC hA0 hI.2) (fun v t H1 locs1 ht hWt hpost _ _ hS => ?_) (fun x t H1 locs1 ht hWt hpost _ _ hS => (hpost.2 x rfl).elim)
                  rcases hpost.1 _ rfl with ⟨hv, c311, c311_0, hI1⟩ | ⟨hv, c312, hI1⟩ | ⟨t_sh313, hv, c314, c314_0, c314_1, c314_2, hI1⟩
                  · omega
                  · cases hv
                    have hI : sI (dC, dI) vcl cI cJ (gsM a th tr dp zi co t_sh271 lt ts mf) A s.heap H1 locs1 := ⟨by rw [← ht]; exact hI1, hS⟩
                    clear hpost hI1 hS ht hWt
                    revert hI; generalize H1 = H; generalize locs1 = locs; intro hI
                    refine lv_goto (tgt := 14) hx hb d_Mo_showText_90 (by decide) ?_
                    exact j14z 515 _ _ _ z259 z262 z244 t_sh271 hI c312 (by omega) (by omega) (by omega) (by omega) (by omega) (by omega) (by omega) (by omega) (by omega) (by omega) (lv_sub hl [3, 4, 1, 0, 2] rfl) (by omega)
                  · cases hv
                    have hI : sI (dC, dI) vcl cI cJ (gsM a th tr dp zi co t_sh313 lt ts mf) A s.heap H1 locs1 := ⟨by rw [← ht]; exact hI1, hS⟩
                    obtain ⟨-, -, -, -, -, ⟨o315, o316⟩, -, -, -⟩ := id c314
                    clear hpost hI1 hS ht hWt
                    revert hI; generalize H1 = H; generalize locs1 = locs; intro hI
                    refine lv_goto (tgt := 14) hx hb d_Mo_showText_90 (by decide) ?_
                    exact j14z 515 _ _ _ z259 z262 z244 t_sh313 hI c314 (by omega) (by omega) (by omega) (by omega) (by omega) (by omega) (by omega) (by omega) (by omega) (by omega) (lv_sub hl [3, 4, 1, 0, 2] rfl) (by omega)
                · cases hv
                  have hI : sI (dC, dI) vcl cI cJ (gsM a th tr dp zi co t_sh307 lt ts mf) A s.heap H1 locs1 := ⟨by rw [← ht]; exact hI1, hS⟩
                  obtain ⟨-, -, -, -, -, ⟨o317, o318⟩, -, -, -⟩ := id c308
                  clear hpost hI1 hS ht hWt
                  revert hI; generalize H1 = H; generalize locs1 = locs; intro hI
                  refine lv_aload_n hx hb d_Mo_showText_81 rfl (lv_at hl 3 rfl) ?_
                  refine lv_iload hx hb d_Mo_showText_82 (lv_at hl 2 rfl) ?_
                  refine sn_bipush hx hb d_Mo_showText_84 (by decide) (fun z319 hz319 => ?_)
                  refine sn_irem (k := 32) hx hb d_Mo_showText_86 (by omega) (by omega) (by omega) (fun z320 hz320 => ?_)
                  refine tz_call (A1 := ga (adM a) H.size) (tz_runV (C := "StoryMachineModel") (As := [.int z320]) (rest := []) ⟨hx, hb, hml, hown, hts⟩ (c_Mo_letter l hfl dC dI cI cJ a H.size th tr dp zi co t_sh307 lt ts mf z320 c308 (by omega) (by omega) (by omega)) (tx_cb (n := 1) hts rfl rfl ⟨Nat.le_of_ble_eq_true rfl, Nat.le_of_ble_eq_true rfl⟩ (tx_code.of (hts _ mw_1406)) (hts _ mw_12) (by decide +kernel) (hts _ mw_1403)) (hts _ mw_1405) (hts _ ms_Mo_letter) ⟨tz_blind, sv_recv (q0 := 0) hts in_Mo hK hI kM_0 rfl, fun U hU hW => ⟨rfl, by rw [hU], by rw [hU]; exact hI.1, va_K.moved hW.alike hK, hst _ _ hI.2 U hU hW⟩⟩ rfl rfl hl.1 rfl (lv_room (Nat.le_of_ble_eq_true rfl)) d_Mo_showText_87 ⟨Nat.le_of_ble_eq_true rfl, Nat.le_of_ble_eq_true rfl⟩) hI.2 (fun q _ h => ga_sub hAC hA0 hI.2 q h) (ga_sub hAC hA0 hI.2) (fun v t H1 locs1 ht hWt hpost _ _ hS => ?_) (fun x t H1 locs1 ht hWt hpost _ _ hS => (hpost.2 x rfl).elim)
                  rcases hpost.1 _ rfl with ⟨hv, c321, c321_0, hI1⟩ | ⟨hv, c322, hI1⟩ | ⟨t_sh323, hv, c324, c324_0, c324_1, c324_2, hI1⟩
                  · omega
                  · cases hv
                    have hI : sI (dC, dI) vcl cI cJ (gsM a th tr dp zi co t_sh307 lt ts mf) A s.heap H1 locs1 := ⟨by rw [← ht]; exact hI1, hS⟩
                    clear hpost hI1 hS ht hWt
                    revert hI; generalize H1 = H; generalize locs1 = locs; intro hI
                    refine lv_goto (tgt := 14) hx hb d_Mo_showText_90 (by decide) ?_
                    exact j14z 515 _ _ _ z259 z262 z244 t_sh307 hI c322 (by omega) (by omega) (by omega) (by omega) (by omega) (by omega) (by omega) (by omega) (by omega) (by omega) (lv_sub hl [3, 4, 1, 0, 2] rfl) (by omega)
                  · cases hv
                    have hI : sI (dC, dI) vcl cI cJ (gsM a th tr dp zi co t_sh323 lt ts mf) A s.heap H1 locs1 := ⟨by rw [← ht]; exact hI1, hS⟩
                    obtain ⟨-, -, -, -, -, ⟨o325, o326⟩, -, -, -⟩ := id c324
                    clear hpost hI1 hS ht hWt
                    revert hI; generalize H1 = H; generalize locs1 = locs; intro hI
                    refine lv_goto (tgt := 14) hx hb d_Mo_showText_90 (by decide) ?_
                    exact j14z 515 _ _ _ z259 z262 z244 t_sh323 hI c324 (by omega) (by omega) (by omega) (by omega) (by omega) (by omega) (by omega) (by omega) (by omega) (by omega) (lv_sub hl [3, 4, 1, 0, 2] rfl) (by omega)
          · refine sn_iconst hx hb d_Mo_showText_43 (by decide) (fun z327 hz327 => ?_)
            refine lv_goto (tgt := 48) hx hb d_Mo_showText_44 (by decide) ?_
            refine lv_istore_n (lv' := [(3, .int z327), (2, .int z259), (4, .int z244), (0, .ref (a 0)), (1, .int x1)]) hx hb d_Mo_showText_48 rfl hl (by decide) rfl (fun ls hl => ?_)
            refine lv_aload_n hx hb d_Mo_showText_49 rfl (lv_at hl 3 rfl) ?_
            refine sv_gete (C := "StoryMachineModel") (T := T_Mo) (N := 51) hx hb hts in_Mo hown hK hI 0 kM_0 rfl 25 (by decide) (hts _ mw_1088) rfl d_Mo_showText_50 (fun z328 hz328 => ?_)
            refine sn_if_ne (tgt := 90) hx hb d_Mo_showText_53 (by decide) (fun b329 => ?_) (fun b329 => ?_)
            · omega
            · refine lv_aload_n hx hb d_Mo_showText_56 rfl (lv_at hl 3 rfl) ?_
              refine lv_iload hx hb d_Mo_showText_57 (lv_at hl 2 rfl) ?_
              refine sn_sipush hx hb d_Mo_showText_59 (by decide) (fun z330 hz330 => ?_)
              refine sn_idiv (k := 1024) hx hb d_Mo_showText_62 (by omega) (by omega) (by omega) (fun z331 hz331 => ?_)
              refine sn_bipush hx hb d_Mo_showText_63 (by decide) (fun z332 hz332 => ?_)
              refine sn_irem (k := 32) hx hb d_Mo_showText_65 (by omega) (by omega) (by omega) (fun z333 hz333 => ?_)
              refine tz_call (A1 := ga (adM a) H.size) (tz_runV (C := "StoryMachineModel") (As := [.int z333]) (rest := []) ⟨hx, hb, hml, hown, hts⟩ (c_Mo_letter l hfl dC dI cI cJ a H.size th tr dp zi co sh lt ts mf z333 c245 (by omega) (by omega) (by omega)) (tx_cb (n := 1) hts rfl rfl ⟨Nat.le_of_ble_eq_true rfl, Nat.le_of_ble_eq_true rfl⟩ (tx_code.of (hts _ mw_1406)) (hts _ mw_12) (by decide +kernel) (hts _ mw_1403)) (hts _ mw_1405) (hts _ ms_Mo_letter) ⟨tz_blind, sv_recv (q0 := 0) hts in_Mo hK hI kM_0 rfl, fun U hU hW => ⟨rfl, by rw [hU], by rw [hU]; exact hI.1, va_K.moved hW.alike hK, hst _ _ hI.2 U hU hW⟩⟩ rfl rfl hl.1 rfl (lv_room (Nat.le_of_ble_eq_true rfl)) d_Mo_showText_66 ⟨Nat.le_of_ble_eq_true rfl, Nat.le_of_ble_eq_true rfl⟩) hI.2 (fun q _ h => ga_sub hAC hA0 hI.2 q h) (ga_sub hAC hA0 hI.2) (fun v t H1 locs1 ht hWt hpost _ _ hS => ?_) (fun x t H1 locs1 ht hWt hpost _ _ hS => (hpost.2 x rfl).elim)
              rcases hpost.1 _ rfl with ⟨hv, c334, c334_0, hI1⟩ | ⟨hv, c335, hI1⟩ | ⟨t_sh336, hv, c337, c337_0, c337_1, c337_2, hI1⟩
              · omega
              · cases hv
                have hI : sI (dC, dI) vcl cI cJ (gsM a th tr dp zi co sh lt ts mf) A s.heap H1 locs1 := ⟨by rw [← ht]; exact hI1, hS⟩
                clear hpost hI1 hS ht hWt
                revert hI; generalize H1 = H; generalize locs1 = locs; intro hI
                refine lv_aload_n hx hb d_Mo_showText_69 rfl (lv_at hl 3 rfl) ?_
                refine lv_iload hx hb d_Mo_showText_70 (lv_at hl 2 rfl) ?_
                refine sn_bipush hx hb d_Mo_showText_72 (by decide) (fun z338 hz338 => ?_)
                refine sn_idiv (k := 32) hx hb d_Mo_showText_74 (by omega) (by omega) (by omega) (fun z339 hz339 => ?_)
                refine sn_bipush hx hb d_Mo_showText_75 (by decide) (fun z340 hz340 => ?_)
                refine sn_irem (k := 32) hx hb d_Mo_showText_77 (by omega) (by omega) (by omega) (fun z341 hz341 => ?_)
                refine tz_call (A1 := ga (adM a) H.size) (tz_runV (C := "StoryMachineModel") (As := [.int z341]) (rest := []) ⟨hx, hb, hml, hown, hts⟩ (c_Mo_letter l hfl dC dI cI cJ a H.size th tr dp zi co sh lt ts mf z341 c335 (by omega) (by omega) (by omega)) (tx_cb (n := 1) hts rfl rfl ⟨Nat.le_of_ble_eq_true rfl, Nat.le_of_ble_eq_true rfl⟩ (tx_code.of (hts _ mw_1406)) (hts _ mw_12) (by decide +kernel) (hts _ mw_1403)) (hts _ mw_1405) (hts _ ms_Mo_letter) ⟨tz_blind, sv_recv (q0 := 0) hts in_Mo hK hI kM_0 rfl, fun U hU hW => ⟨rfl, by rw [hU], by rw [hU]; exact hI.1, va_K.moved hW.alike hK, hst _ _ hI.2 U hU hW⟩⟩ rfl rfl hl.1 rfl (lv_room (Nat.le_of_ble_eq_true rfl)) d_Mo_showText_78 ⟨Nat.le_of_ble_eq_true rfl, Nat.le_of_ble_eq_true rfl⟩) hI.2 (fun q _ h => ga_sub hAC hA0 hI.2 q h) (ga_sub hAC hA0 hI.2) (fun v t H1 locs1 ht hWt hpost _ _ hS => ?_) (fun x t H1 locs1 ht hWt hpost _ _ hS => (hpost.2 x rfl).elim)
                rcases hpost.1 _ rfl with ⟨hv, c342, c342_0, hI1⟩ | ⟨hv, c343, hI1⟩ | ⟨t_sh344, hv, c345, c345_0, c345_1, c345_2, hI1⟩
                · omega
                · cases hv
                  have hI : sI (dC, dI) vcl cI cJ (gsM a th tr dp zi co sh lt ts mf) A s.heap H1 locs1 := ⟨by rw [← ht]; exact hI1, hS⟩
                  clear hpost hI1 hS ht hWt
                  revert hI; generalize H1 = H; generalize locs1 = locs; intro hI
                  refine lv_aload_n hx hb d_Mo_showText_81 rfl (lv_at hl 3 rfl) ?_
                  refine lv_iload hx hb d_Mo_showText_82 (lv_at hl 2 rfl) ?_
                  refine sn_bipush hx hb d_Mo_showText_84 (by decide) (fun z346 hz346 => ?_)
                  refine sn_irem (k := 32) hx hb d_Mo_showText_86 (by omega) (by omega) (by omega) (fun z347 hz347 => ?_)
                  refine tz_call (A1 := ga (adM a) H.size) (tz_runV (C := "StoryMachineModel") (As := [.int z347]) (rest := []) ⟨hx, hb, hml, hown, hts⟩ (c_Mo_letter l hfl dC dI cI cJ a H.size th tr dp zi co sh lt ts mf z347 c343 (by omega) (by omega) (by omega)) (tx_cb (n := 1) hts rfl rfl ⟨Nat.le_of_ble_eq_true rfl, Nat.le_of_ble_eq_true rfl⟩ (tx_code.of (hts _ mw_1406)) (hts _ mw_12) (by decide +kernel) (hts _ mw_1403)) (hts _ mw_1405) (hts _ ms_Mo_letter) ⟨tz_blind, sv_recv (q0 := 0) hts in_Mo hK hI kM_0 rfl, fun U hU hW => ⟨rfl, by rw [hU], by rw [hU]; exact hI.1, va_K.moved hW.alike hK, hst _ _ hI.2 U hU hW⟩⟩ rfl rfl hl.1 rfl (lv_room (Nat.le_of_ble_eq_true rfl)) d_Mo_showText_87 ⟨Nat.le_of_ble_eq_true rfl, Nat.le_of_ble_eq_true rfl⟩) hI.2 (fun q _ h => ga_sub hAC hA0 hI.2 q h) (ga_sub hAC hA0 hI.2) (fun v t H1 locs1 ht hWt hpost _ _ hS => ?_) (fun x t H1 locs1 ht hWt hpost _ _ hS => (hpost.2 x rfl).elim)
                  rcases hpost.1 _ rfl with ⟨hv, c348, c348_0, hI1⟩ | ⟨hv, c349, hI1⟩ | ⟨t_sh350, hv, c351, c351_0, c351_1, c351_2, hI1⟩
                  · omega
                  · cases hv
                    have hI : sI (dC, dI) vcl cI cJ (gsM a th tr dp zi co sh lt ts mf) A s.heap H1 locs1 := ⟨by rw [← ht]; exact hI1, hS⟩
                    clear hpost hI1 hS ht hWt
                    revert hI; generalize H1 = H; generalize locs1 = locs; intro hI
                    refine lv_goto (tgt := 14) hx hb d_Mo_showText_90 (by decide) ?_
                    exact j14z 515 _ _ _ z259 z327 z244 sh hI c349 (by omega) (by omega) (by omega) (by omega) (by omega) (by omega) (by omega) (by omega) (by omega) (by omega) (lv_sub hl [3, 4, 1, 0, 2] rfl) (by omega)
                  · cases hv
                    have hI : sI (dC, dI) vcl cI cJ (gsM a th tr dp zi co t_sh350 lt ts mf) A s.heap H1 locs1 := ⟨by rw [← ht]; exact hI1, hS⟩
                    obtain ⟨-, -, -, -, -, ⟨o352, o353⟩, -, -, -⟩ := id c351
                    clear hpost hI1 hS ht hWt
                    revert hI; generalize H1 = H; generalize locs1 = locs; intro hI
                    refine lv_goto (tgt := 14) hx hb d_Mo_showText_90 (by decide) ?_
                    exact j14z 515 _ _ _ z259 z327 z244 t_sh350 hI c351 (by omega) (by omega) (by omega) (by omega) (by omega) (by omega) (by omega) (by omega) (by omega) (by omega) (lv_sub hl [3, 4, 1, 0, 2] rfl) (by omega)
                · cases hv
                  have hI : sI (dC, dI) vcl cI cJ (gsM a th tr dp zi co t_sh344 lt ts mf) A s.heap H1 locs1 := ⟨by rw [← ht]; exact hI1, hS⟩
                  obtain ⟨-, -, -, -, -, ⟨o354, o355⟩, -, -, -⟩ := id c345
                  clear hpost hI1 hS ht hWt
                  revert hI; generalize H1 = H; generalize locs1 = locs; intro hI
                  refine lv_aload_n hx hb d_Mo_showText_81 rfl (lv_at hl 3 rfl) ?_
                  refine lv_iload hx hb d_Mo_showText_82 (lv_at hl 2 rfl) ?_
                  refine sn_bipush hx hb d_Mo_showText_84 (by decide) (fun z356 hz356 => ?_)
                  refine sn_irem (k := 32) hx hb d_Mo_showText_86 (by omega) (by omega) (by omega) (fun z357 hz357 => ?_)
                  refine tz_call (A1 := ga (adM a) H.size) (tz_runV (C := "StoryMachineModel") (As := [.int z357]) (rest := []) ⟨hx, hb, hml, hown, hts⟩ (c_Mo_letter l hfl dC dI cI cJ a H.size th tr dp zi co t_sh344 lt ts mf z357 c345 (by omega) (by omega) (by omega)) (tx_cb (n := 1) hts rfl rfl ⟨Nat.le_of_ble_eq_true rfl, Nat.le_of_ble_eq_true rfl⟩ (tx_code.of (hts _ mw_1406)) (hts _ mw_12) (by decide +kernel) (hts _ mw_1403)) (hts _ mw_1405) (hts _ ms_Mo_letter) ⟨tz_blind, sv_recv (q0 := 0) hts in_Mo hK hI kM_0 rfl, fun U hU hW => ⟨rfl, by rw [hU], by rw [hU]; exact hI.1, va_K.moved hW.alike hK, hst _ _ hI.2 U hU hW⟩⟩ rfl rfl hl.1 rfl (lv_room (Nat.le_of_ble_eq_true rfl)) d_Mo_showText_87 ⟨Nat.le_of_ble_eq_true rfl, Nat.le_of_ble_eq_true rfl⟩) hI.2 (fun q _ h => ga_sub hAC hA0 hI.2 q h) (ga_sub hAC hA0 hI.2) (fun v t H1 locs1 ht hWt hpost _ _ hS => ?_) (fun x t H1 locs1 ht hWt hpost _ _ hS => (hpost.2 x rfl).elim)
                  rcases hpost.1 _ rfl with ⟨hv, c358, c358_0, hI1⟩ | ⟨hv, c359, hI1⟩ | ⟨t_sh360, hv, c361, c361_0, c361_1, c361_2, hI1⟩
                  · omega
                  · cases hv
                    have hI : sI (dC, dI) vcl cI cJ (gsM a th tr dp zi co t_sh344 lt ts mf) A s.heap H1 locs1 := ⟨by rw [← ht]; exact hI1, hS⟩
                    clear hpost hI1 hS ht hWt
                    revert hI; generalize H1 = H; generalize locs1 = locs; intro hI
                    refine lv_goto (tgt := 14) hx hb d_Mo_showText_90 (by decide) ?_
                    exact j14z 515 _ _ _ z259 z327 z244 t_sh344 hI c359 (by omega) (by omega) (by omega) (by omega) (by omega) (by omega) (by omega) (by omega) (by omega) (by omega) (lv_sub hl [3, 4, 1, 0, 2] rfl) (by omega)
                  · cases hv
                    have hI : sI (dC, dI) vcl cI cJ (gsM a th tr dp zi co t_sh360 lt ts mf) A s.heap H1 locs1 := ⟨by rw [← ht]; exact hI1, hS⟩
                    obtain ⟨-, -, -, -, -, ⟨o362, o363⟩, -, -, -⟩ := id c361
                    clear hpost hI1 hS ht hWt
                    revert hI; generalize H1 = H; generalize locs1 = locs; intro hI
                    refine lv_goto (tgt := 14) hx hb d_Mo_showText_90 (by decide) ?_
                    exact j14z 515 _ _ _ z259 z327 z244 t_sh360 hI c361 (by omega) (by omega) (by omega) (by omega) (by omega) (by omega) (by omega) (by omega) (by omega) (by omega) (lv_sub hl [3, 4, 1, 0, 2] rfl) (by omega)
              · cases hv
                have hI : sI (dC, dI) vcl cI cJ (gsM a th tr dp zi co t_sh336 lt ts mf) A s.heap H1 locs1 := ⟨by rw [← ht]; exact hI1, hS⟩
                obtain ⟨-, -, -, -, -, ⟨o364, o365⟩, -, -, -⟩ := id c337
                clear hpost hI1 hS ht hWt
                revert hI; generalize H1 = H; generalize locs1 = locs; intro hI
                refine lv_aload_n hx hb d_Mo_showText_69 rfl (lv_at hl 3 rfl) ?_
                refine lv_iload hx hb d_Mo_showText_70 (lv_at hl 2 rfl) ?_
                refine sn_bipush hx hb d_Mo_showText_72 (by decide) (fun z366 hz366 => ?_)
                refine sn_idiv (k := 32) hx hb d_Mo_showText_74 (by omega) (by omega) (by omega) (fun z367 hz367 => ?_)
                refine sn_bipush hx hb d_Mo_showText_75 (by decide) (fun z368 hz368 => ?_)
                refine sn_irem (k := 32) hx hb d_Mo_showText_77 (by omega) (by omega) (by omega) (fun z369 hz369 => ?_)
                refine tz_call (A1 := ga (adM a) H.size) (tz_runV (C := "StoryMachineModel") (As := [.int z369]) (rest := []) ⟨hx, hb, hml, hown, hts⟩ (c_Mo_letter l hfl dC dI cI cJ a H.size th tr dp zi co t_sh336 lt ts mf z369 c337 (by omega) (by omega) (by omega)) (tx_cb (n := 1) hts rfl rfl ⟨Nat.le_of_ble_eq_true rfl, Nat.le_of_ble_eq_true rfl⟩ (tx_code.of (hts _ mw_1406)) (hts _ mw_12) (by decide +kernel) (hts _ mw_1403)) (hts _ mw_1405) (hts _ ms_Mo_letter) ⟨tz_blind, sv_recv (q0 := 0) hts in_Mo hK hI kM_0 rfl, fun U hU hW => ⟨rfl, by rw [hU], by rw [hU]; exact hI.1, va_K.moved hW.alike hK, hst _ _ hI.2 U hU hW⟩⟩ rfl rfl hl.1 rfl (lv_room (Nat.le_of_ble_eq_true rfl)) d_Mo_showText_78 ⟨Nat.le_of_ble_eq_true rfl, Nat.le_of_ble_eq_true rfl⟩) hI.2 (fun q _ h => ga_sub hAC hA0 hI.2 q h) (ga_sub hAC hA0 hI.2) (fun v t H1 locs1 ht hWt hpost _ _ hS => ?_) (fun x t H1 locs1 ht hWt hpost _ _ hS => (hpost.2 x rfl).elim)
                rcases hpost.1 _ rfl with ⟨hv, c370, c370_0, hI1⟩ | ⟨hv, c371, hI1⟩ | ⟨t_sh372, hv, c373, c373_0, c373_1, c373_2, hI1⟩
                · omega
                · cases hv
                  have hI : sI (dC, dI) vcl cI cJ (gsM a th tr dp zi co t_sh336 lt ts mf) A s.heap H1 locs1 := ⟨by rw [← ht]; exact hI1, hS⟩
                  clear hpost hI1 hS ht hWt
                  revert hI; generalize H1 = H; generalize locs1 = locs; intro hI
                  refine lv_aload_n hx hb d_Mo_showText_81 rfl (lv_at hl 3 rfl) ?_
                  refine lv_iload hx hb d_Mo_showText_82 (lv_at hl 2 rfl) ?_
                  refine sn_bipush hx hb d_Mo_showText_84 (by decide) (fun z374 hz374 => ?_)
                  refine sn_irem (k := 32) hx hb d_Mo_showText_86 (by omega) (by omega) (by omega) (fun z375 hz375 => ?_)
                  refine tz_call (A1 := ga (adM a) H.size) (tz_runV (C := "StoryMachineModel") (As := [.int z375]) (rest := []) ⟨hx, hb, hml, hown, hts⟩ (c_Mo_letter l hfl dC dI cI cJ a H.size th tr dp zi co t_sh336 lt ts mf z375 c371 (by omega) (by omega) (by omega)) (tx_cb (n := 1) hts rfl rfl ⟨Nat.le_of_ble_eq_true rfl, Nat.le_of_ble_eq_true rfl⟩ (tx_code.of (hts _ mw_1406)) (hts _ mw_12) (by decide +kernel) (hts _ mw_1403)) (hts _ mw_1405) (hts _ ms_Mo_letter) ⟨tz_blind, sv_recv (q0 := 0) hts in_Mo hK hI kM_0 rfl, fun U hU hW => ⟨rfl, by rw [hU], by rw [hU]; exact hI.1, va_K.moved hW.alike hK, hst _ _ hI.2 U hU hW⟩⟩ rfl rfl hl.1 rfl (lv_room (Nat.le_of_ble_eq_true rfl)) d_Mo_showText_87 ⟨Nat.le_of_ble_eq_true rfl, Nat.le_of_ble_eq_true rfl⟩) hI.2 (fun q _ h => ga_sub hAC hA0 hI.2 q h) (ga_sub hAC hA0 hI.2) (fun v t H1 locs1 ht hWt hpost _ _ hS => ?_) (fun x t H1 locs1 ht hWt hpost _ _ hS => (hpost.2 x rfl).elim)
                  rcases hpost.1 _ rfl with ⟨hv, c376, c376_0, hI1⟩ | ⟨hv, c377, hI1⟩ | ⟨t_sh378, hv, c379, c379_0, c379_1, c379_2, hI1⟩
                  · omega
                  · cases hv
                    have hI : sI (dC, dI) vcl cI cJ (gsM a th tr dp zi co t_sh336 lt ts mf) A s.heap H1 locs1 := ⟨by rw [← ht]; exact hI1, hS⟩
                    clear hpost hI1 hS ht hWt
                    revert hI; generalize H1 = H; generalize locs1 = locs; intro hI
                    refine lv_goto (tgt := 14) hx hb d_Mo_showText_90 (by decide) ?_
                    exact j14z 515 _ _ _ z259 z327 z244 t_sh336 hI c377 (by omega) (by omega) (by omega) (by omega) (by omega) (by omega) (by omega) (by omega) (by omega) (by omega) (lv_sub hl [3, 4, 1, 0, 2] rfl) (by omega)
                  · cases hv
                    have hI : sI (dC, dI) vcl cI cJ (gsM a th tr dp zi co t_sh378 lt ts mf) A s.heap H1 locs1 := ⟨by rw [← ht]; exact hI1, hS⟩
                    obtain ⟨-, -, -, -, -, ⟨o380, o381⟩, -, -, -⟩ := id c379
                    clear hpost hI1 hS ht hWt
                    revert hI; generalize H1 = H; generalize locs1 = locs; intro hI
                    refine lv_goto (tgt := 14) hx hb d_Mo_showText_90 (by decide) ?_
                    exact j14z 515 _ _ _ z259 z327 z244 t_sh378 hI c379 (by omega) (by omega) (by omega) (by omega) (by omega) (by omega) (by omega) (by omega) (by omega) (by omega) (lv_sub hl [3, 4, 1, 0, 2] rfl) (by omega)
                · cases hv
                  have hI : sI (dC, dI) vcl cI cJ (gsM a th tr dp zi co t_sh372 lt ts mf) A s.heap H1 locs1 := ⟨by rw [← ht]; exact hI1, hS⟩
                  obtain ⟨-, -, -, -, -, ⟨o382, o383⟩, -, -, -⟩ := id c373
                  clear hpost hI1 hS ht hWt
                  revert hI; generalize H1 = H; generalize locs1 = locs; intro hI
                  refine lv_aload_n hx hb d_Mo_showText_81 rfl (lv_at hl 3 rfl) ?_
                  refine lv_iload hx hb d_Mo_showText_82 (lv_at hl 2 rfl) ?_
                  refine sn_bipush hx hb d_Mo_showText_84 (by decide) (fun z384 hz384 => ?_)
                  refine sn_irem (k := 32) hx hb d_Mo_showText_86 (by omega) (by omega) (by omega) (fun z385 hz385 => ?_)
                  refine tz_call (A1 := ga (adM a) H.size) (tz_runV (C := "StoryMachineModel") (As := [.int z385]) (rest := []) ⟨hx, hb, hml, hown, hts⟩ (c_Mo_letter l hfl dC dI cI cJ a H.size th tr dp zi co t_sh372 lt ts mf z385 c373 (by omega) (by omega) (by omega)) (tx_cb (n := 1) hts rfl rfl ⟨Nat.le_of_ble_eq_true rfl, Nat.le_of_ble_eq_true rfl⟩ (tx_code.of (hts _ mw_1406)) (hts _ mw_12) (by decide +kernel) (hts _ mw_1403)) (hts _ mw_1405) (hts _ ms_Mo_letter) ⟨tz_blind, sv_recv (q0 := 0) hts in_Mo hK hI kM_0 rfl, fun U hU hW => ⟨rfl, by rw [hU], by rw [hU]; exact hI.1, va_K.moved hW.alike hK, hst _ _ hI.2 U hU hW⟩⟩ rfl rfl hl.1 rfl (lv_room (Nat.le_of_ble_eq_true rfl)) d_Mo_showText_87 ⟨Nat.le_of_ble_eq_true rfl, Nat.le_of_ble_eq_true rfl⟩) hI.2 (fun q _ h => ga_sub hAC hA0 hI.2 q h) (ga_sub hAC hA0 hI.2) (fun v t H1 locs1 ht hWt hpost _ _ hS => ?_) (fun x t H1 locs1 ht hWt hpost _ _ hS => (hpost.2 x rfl).elim)
                  rcases hpost.1 _ rfl with ⟨hv, c386, c386_0, hI1⟩ | ⟨hv, c387, hI1⟩ | ⟨t_sh388, hv, c389, c389_0, c389_1, c389_2, hI1⟩
                  · omega
                  · cases hv
                    have hI : sI (dC, dI) vcl cI cJ (gsM a th tr dp zi co t_sh372 lt ts mf) A s.heap H1 locs1 := ⟨by rw [← ht]; exact hI1, hS⟩
                    clear hpost hI1 hS ht hWt
                    revert hI; generalize H1 = H; generalize locs1 = locs; intro hI
                    refine lv_goto (tgt := 14) hx hb d_Mo_showText_90 (by decide) ?_
                    exact j14z 515 _ _ _ z259 z327 z244 t_sh372 hI c387 (by omega) (by omega) (by omega) (by omega) (by omega) (by omega) (by omega) (by omega) (by omega) (by omega) (lv_sub hl [3, 4, 1, 0, 2] rfl) (by omega)
                  · cases hv
                    have hI : sI (dC, dI) vcl cI cJ (gsM a th tr dp zi co t_sh388 lt ts mf) A s.heap H1 locs1 := ⟨by rw [← ht]; exact hI1, hS⟩
                    obtain ⟨-, -, -, -, -, ⟨o390, o391⟩, -, -, -⟩ := id c389
                    clear hpost hI1 hS ht hWt
                    revert hI; generalize H1 = H; generalize locs1 = locs; intro hI
                    refine lv_goto (tgt := 14) hx hb d_Mo_showText_90 (by decide) ?_
                    exact j14z 515 _ _ _ z259 z327 z244 t_sh388 hI c389 (by omega) (by omega) (by omega) (by omega) (by omega) (by omega) (by omega) (by omega) (by omega) (by omega) (lv_sub hl [3, 4, 1, 0, 2] rfl) (by omega)
  refine lv_aload_n hx hb d_Mo_showText_0 rfl (lv_at hl 0 rfl) ?_
  refine sn_iconst hx hb d_Mo_showText_1 (by decide) (fun z392 hz392 => ?_)
  refine sv_put (C := "StoryMachineModel") (T := T_Mo) (N := 51) (ty := .int) hx hb hts in_Mo t_Mo tk_Mo nm_Mo hown hK (sh_in adM_map hAC) hI 0 kM_0 rfl 44 (by decide) (hts _ mw_1107) rfl (by decide +kernel) rfl rfl (Nat.le_of_ble_eq_true rfl) (by omega) (by omega) pM_0_44 d_Mo_showText_2 (fun H locs hI => ?_)
  refine lv_aload_n hx hb d_Mo_showText_5 rfl (lv_at hl 0 rfl) ?_
  refine sn_iconst hx hb d_Mo_showText_6 (by decide) (fun z393 hz393 => ?_)
  refine sv_put (C := "StoryMachineModel") (T := T_Mo) (N := 51) (ty := .int) hx hb hts in_Mo t_Mo tk_Mo nm_Mo hown hK (sh_in adM_map hAC) hI 0 kM_0 rfl 45 (by decide) (hts _ mw_1108) rfl (by decide +kernel) rfl rfl (Nat.le_of_ble_eq_true rfl) (by omega) (by omega) pM_0_45 d_Mo_showText_7 (fun H locs hI => ?_)
  refine lv_iload_n hx hb d_Mo_showText_10 rfl (lv_at hl 1 rfl) ?_
  refine lv_istore_n (lv' := [(2, .int x1), (0, .ref (a 0)), (1, .int x1)]) hx hb d_Mo_showText_11 rfl hl (by decide) rfl (fun ls hl => ?_)
  refine sn_iconst hx hb d_Mo_showText_12 (by decide) (fun z394 hz394 => ?_)
  refine lv_istore_n (lv' := [(3, .int z394), (2, .int x1), (0, .ref (a 0)), (1, .int x1)]) hx hb d_Mo_showText_13 rfl hl (by decide) rfl (fun ls hl => ?_)
  exact j14u _ _ _ z394 hI hok (by omega) (by omega) (by omega) (lv_sub hl [2, 3, 1, 0] rfl)
