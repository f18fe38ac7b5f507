abbrev q_Mo_showText (dC : Nat → ClassId) (dI : Nat → Nat → Nat) (cI cJ : ClassId) (a : Nat → Nat) (th tr dp zi co sh lt ts : Int) (mf : Nat → Int32) (x1 : Int32) : Outcome → State → Prop := fun o t => (∀ v, o = .returned v → ((∃ (z : Int32) (tr_ sh_ : Int), v = some (.int z) ∧ okM th tr_ dp zi co sh_ lt ts mf ∧ ((-2147483648) ≤ z.toInt) ∧ (z.toInt ≤ 2147483647) ∧ (1 ≤ tr_) ∧ (sh_ ≤ sh + 1600) ∧ sh_I (dC, dI) vcl cI cJ (gsM a th tr_ dp zi co sh_ lt ts mf) t.heap) ∨ (∃ (z : Int32) (sh_ : Int), v = some (.int z) ∧ okM th tr dp zi co sh_ lt ts mf ∧ (2 ≤ z.toInt) ∧ (z.toInt ≤ 513) ∧ (0 ≤ x1.toInt) ∧ (x1.toInt ≤ 511) ∧ (tr ≤ 0) ∧ (sh_ ≤ sh + 1600) ∧ sh_I (dC, dI) vcl cI cJ (gsM a th tr dp zi co sh_ lt ts mf) t.heap))) ∧ (∀ x, o = .threw x → (False))
def rm_Mo_showText : Room := { frames := 3, cells := 0, slots := 0, locals := 66 }
set_option maxHeartbeats 4000000 in
set_option maxRecDepth 100000 in
theorem c_Mo_showText (l : Launch) (hfl : l.flags = pinnedFlags ++ [noTraceFlag]) (dC : Nat → ClassId) (dI : Nat → Nat → Nat) (cI cJ : ClassId) (a : Nat → Nat) (sz : Nat) (th tr dp zi co sh lt ts : Int) (mf : Nat → Int32) (x1 : Int32) (hok : okM th tr dp zi co sh lt ts mf) (hp0 : sh ≤ 1999998400) : tz_Met l ⟨"StoryMachineModel", "showText", "(I)I"⟩ tw_tbl rm_Mo_showText (tzP (dC, dI) vcl cI cJ (gsM a th tr dp zi co sh lt ts mf) a (adM a) [.ref (a 0), .int x1] sz) (tq_Q (q_Mo_showText dC dI cI cJ a th tr dp zi co sh lt ts mf x1) (ga (adM a) sz)) 0 0 0 0 (ga (adM a) sz) := by
  refine tz_ofW (cc := prog_13_method_20_code) (maxL := 5) (ret := (some .int)) (by decide) (tx_isM mw_1401) ?_
  intro p e s m args below meth c s₁ B hml hv
  obtain ⟨rfl, hsz, hI0, hK, hst0⟩ := hv
  have hx := B.exec
  have hb := B.bytes
  have hr := B.returns
  have hts := atoms_spec (ws := tw_tbl) B.pre
  have hown : s.vm.findClass "StoryMachineModel" = some m.cls := findClass_of_methodNamed B.named
  have hlocks := B.notSynchronized
  subst hsz
  have hst := fun (H : Heap) (locs : List Loc) (hS : va_S (ga (adM a) s.heap.size) s.heap H locs) (U : State) (hU : U.heap = H) (hW : s.WarmedH U.vm) => zS_all adM_map hI0 hst0 hS hU hW
  have hAC : ∀ q ∈ adM a, ga (adM a) s.heap.size q := fun q h => Or.inl h
  have hA0 : ∀ q, s.heap.size ≤ q → ga (adM a) s.heap.size q := fun q h => Or.inr h
  have hI : sI (dC, dI) vcl cI cJ (gsM a th tr dp zi co sh lt ts mf) (ga (adM a) s.heap.size) s.heap s.heap [] := ⟨hI0, va_S.rf⟩
  clear hI0 hst0
  have hl := lv_entry ([.ref (a 0), .int x1]) (n := 5) (Nat.le_of_ble_eq_true rfl)
  rw [lg_entry_eq]
  generalize (lg_sl ([.ref (a 0), .int x1]) ++ List.replicate (5 - (lg_sl ([.ref (a 0), .int x1])).length) Slot.unset).toArray = ls at hl ⊢
  have hl : lv_has ls 5 [(0, .ref (a 0)), (1, .int x1)] := hl
  generalize hZ : tz_MQ below (tq_Q (q_Mo_showText dC dI cI cJ a th tr dp zi co sh lt ts mf x1) (ga (adM a) s.heap.size)) ([.ref (a 0), .int x1] : List Value).toArray s 0 0 0 0 (ga (adM a) s.heap.size) = Z
  obtain ⟨A, hAe⟩ : ∃ A, A = ga (adM a) s.heap.size := ⟨_, rfl⟩
  rw [← hAe] at hst hAC hA0 hI hZ
  refine sv_start hI (fun H locs hI => ?_)
  obtain ⟨⟨o1, o2⟩, ⟨o3, o4⟩, ⟨o5, o6⟩, ⟨o7, o8⟩, ⟨o9, o10⟩, ⟨o11, o12⟩, ⟨o13, o14⟩, ⟨o15, o16⟩, -⟩ := id hok
  have gx1 := sn_rng x1
  have j14p : ∀ (H : Heap) (locs : List Loc) (ls : Array Slot) (v14p_2 v14p_3 v14p_4 : Int32) (t14p_tr t14p_sh : Int), sI (dC, dI) vcl cI cJ (gsM a th t14p_tr dp zi co t14p_sh lt ts mf) A s.heap H locs → okM th t14p_tr dp zi co t14p_sh lt ts mf → (-2147483648) ≤ v14p_2.toInt → v14p_2.toInt ≤ 2147483647 → 0 ≤ v14p_3.toInt → v14p_3.toInt ≤ 1 → 0 ≤ v14p_4.toInt → v14p_4.toInt ≤ 65280 → 1 ≤ t14p_tr → t14p_tr ≤ 4 → tr ≤ 0 → t14p_sh ≤ sh + 1600 → lv_has ls 5 [(0, .ref (a 0)), (1, .int x1), (2, .int v14p_2), (3, .int v14p_3), (4, .int v14p_4)] → W p l e (headSpec tw_tbl rm_Mo_showText).room s m ([.ref (a 0), .int x1] : List Value).toArray below meth c H locs 0 0 Z (F0 m 14 ls []) := by
    intro H locs ls v14p_2 v14p_3 v14p_4 t14p_tr t14p_sh hI hok g14_0 g14_1 g14_2 g14_3 g14_4 g14_5 g14_6 g14_7 g14_8 g14_9 hl
    obtain ⟨⟨o17, o18⟩, ⟨o19, o20⟩, ⟨o21, o22⟩, ⟨o23, o24⟩, ⟨o25, o26⟩, ⟨o27, o28⟩, ⟨o29, o30⟩, ⟨o31, o32⟩, -⟩ := id hok
    refine lv_iload_n hx hb d_Mo_showText_14 rfl (lv_at hl 3 rfl) ?_
    refine sn_if_eq (tgt := 93) hx hb d_Mo_showText_15 (by decide) (fun b33 => ?_) (fun b33 => ?_)
    · refine lv_iload_n hx hb d_Mo_showText_93 rfl (lv_at hl 2 rfl) ?_
      subst hZ
      exact tz_ret (W.iret (v := v14p_2) hx hb hr (fun t ht hW => ⟨⟨fun v9 hv9 => by cases hv9; exact (Or.inl ⟨v14p_2, t14p_tr, t14p_sh, rfl, hok, by omega, by omega, by omega, by omega, by rw [ht]; exact hI.1⟩), fun x9 hx9 => (by cases hx9)⟩, hI.2.F ht⟩) hI.2.2.2 d_Mo_showText_94)
    · refine lv_aload_n hx hb d_Mo_showText_18 rfl (lv_at hl 0 rfl) ?_
      refine sv_gete (C := "StoryMachineModel") (T := T_Mo) (N := 51) hx hb hts in_Mo hown hK hI 0 kM_0 rfl 25 (by decide) (hts _ mw_1088) rfl d_Mo_showText_19 (fun z34 hz34 => ?_)
      refine sn_if_ne (tgt := 93) hx hb d_Mo_showText_22 (by decide) (fun b35 => ?_) (fun b35 => ?_)
      · refine lv_iload_n hx hb d_Mo_showText_93 rfl (lv_at hl 2 rfl) ?_
        subst hZ
        exact tz_ret (W.iret (v := v14p_2) hx hb hr (fun t ht hW => ⟨⟨fun v9 hv9 => by cases hv9; exact (Or.inl ⟨v14p_2, t14p_tr, t14p_sh, rfl, hok, by omega, by omega, by omega, by omega, by rw [ht]; exact hI.1⟩), fun x9 hx9 => (by cases hx9)⟩, hI.2.F ht⟩) hI.2.2.2 d_Mo_showText_94)
      · omega
  have j90p : ∀ (H : Heap) (locs : List Loc) (ls : Array Slot) (v90p_2 v90p_3 v90p_4 : Int32) (t90p_tr t90p_sh : Int), sI (dC, dI) vcl cI cJ (gsM a th t90p_tr dp zi co t90p_sh lt ts mf) A s.heap H locs → okM th t90p_tr dp zi co t90p_sh lt ts mf → (-2147483648) ≤ v90p_2.toInt → v90p_2.toInt ≤ 2147483647 → 0 ≤ v90p_3.toInt → v90p_3.toInt ≤ 1 → 0 ≤ v90p_4.toInt → v90p_4.toInt ≤ 65280 → 1 ≤ t90p_tr → t90p_tr ≤ 4 → tr ≤ 0 → lv_has ls 5 [(0, .ref (a 0)), (1, .int x1), (2, .int v90p_2), (3, .int v90p_3), (4, .int v90p_4)] → W p l e (headSpec tw_tbl rm_Mo_showText).room s m ([.ref (a 0), .int x1] : List Value).toArray below meth c H locs 0 0 Z (F0 m 90 ls []) := by
    intro H locs ls v90p_2 v90p_3 v90p_4 t90p_tr t90p_sh hI hok g90_0 g90_1 g90_2 g90_3 g90_4 g90_5 g90_6 g90_7 g90_8 hl
    obtain ⟨⟨o36, o37⟩, ⟨o38, o39⟩, ⟨o40, o41⟩, ⟨o42, o43⟩, ⟨o44, o45⟩, ⟨o46, o47⟩, ⟨o48, o49⟩, ⟨o50, o51⟩, -⟩ := id hok
    refine lv_goto (tgt := 14) hx hb d_Mo_showText_90 (by decide) ?_
    exact j14p _ _ _ v90p_2 v90p_3 v90p_4 t90p_tr t90p_sh hI hok (by omega) (by omega) (by omega) (by omega) (by omega) (by omega) (by omega) (by omega) (by omega) (by omega) (lv_sub hl [0, 1, 2, 3, 4] rfl)
  have j14z : ∀ (n : Nat) (H : Heap) (locs : List Loc) (ls : Array Slot) (v14z_2 v14z_3 v14z_4 : Int32) (t14z_sh : Int), sI (dC, dI) vcl cI cJ (gsM a th tr dp zi co t14z_sh lt ts mf) A s.heap H locs → okM th tr dp zi co t14z_sh lt ts mf → 2 ≤ v14z_2.toInt → v14z_2.toInt ≤ 513 → 0 ≤ v14z_3.toInt → v14z_3.toInt ≤ 1 → 0 ≤ v14z_4.toInt → v14z_4.toInt ≤ 65535 → tr ≤ 0 → 0 ≤ x1.toInt → x1.toInt ≤ 511 → t14z_sh ≤ sh + 3 * v14z_2.toInt → lv_has ls 5 [(0, .ref (a 0)), (1, .int x1), (2, .int v14z_2), (3, .int v14z_3), (4, .int v14z_4)] → 514 - v14z_2.toInt < (n : Int) → W p l e (headSpec tw_tbl rm_Mo_showText).room s m ([.ref (a 0), .int x1] : List Value).toArray below meth c H locs 0 0 Z (F0 m 14 ls []) := by
    intro n
    induction n with
    | zero => intro H locs ls v14z_2 v14z_3 v14z_4 t14z_sh hI hok g14_0 g14_1 g14_2 g14_3 g14_4 g14_5 g14_6 g14_7 g14_8 g14_9 hl hme; exfalso; obtain ⟨⟨o52, o53⟩, ⟨o54, o55⟩, ⟨o56, o57⟩, ⟨o58, o59⟩, ⟨o60, o61⟩, ⟨o62, o63⟩, ⟨o64, o65⟩, ⟨o66, o67⟩, -⟩ := id hok; omega
    | succ n ih =>
      intro H locs ls v14z_2 v14z_3 v14z_4 t14z_sh hI hok g14_0 g14_1 g14_2 g14_3 g14_4 g14_5 g14_6 g14_7 g14_8 g14_9 hl hme
      obtain ⟨⟨o68, o69⟩, ⟨o70, o71⟩, ⟨o72, o73⟩, ⟨o74, o75⟩, ⟨o76, o77⟩, ⟨o78, o79⟩, ⟨o80, o81⟩, ⟨o82, o83⟩, -⟩ := id hok
      have j90z : ∀ (H : Heap) (locs : List Loc) (ls : Array Slot) (v90z_2 v90z_3 v90z_4 : Int32) (t90z_sh : Int), sI (dC, dI) vcl cI cJ (gsM a th tr dp zi co t90z_sh lt ts mf) A s.heap H locs → okM th tr dp zi co t90z_sh lt ts mf → 2 ≤ v90z_2.toInt → v90z_2.toInt ≤ 513 → 0 ≤ v90z_3.toInt → v90z_3.toInt ≤ 1 → 0 ≤ v90z_4.toInt → v90z_4.toInt ≤ 65535 → tr ≤ 0 → 0 ≤ x1.toInt → x1.toInt ≤ 511 → lv_has ls 5 [(0, .ref (a 0)), (1, .int x1), (2, .int v90z_2), (3, .int v90z_3), (4, .int v90z_4)] → W p l e (headSpec tw_tbl rm_Mo_showText).room s m ([.ref (a 0), .int x1] : List Value).toArray below meth c H locs 0 0 Z (F0 m 90 ls []) := by
        intro H locs ls v90z_2 v90z_3 v90z_4 t90z_sh hI hok g90_0 g90_1 g90_2 g90_3 g90_4 g90_5 g90_6 g90_7 g90_8 hl
        obtain ⟨⟨o84, o85⟩, ⟨o86, o87⟩, ⟨o88, o89⟩, ⟨o90, o91⟩, ⟨o92, o93⟩, ⟨o94, o95⟩, ⟨o96, o97⟩, ⟨o98, o99⟩, -⟩ := id hok
        refine lv_goto (tgt := 14) hx hb d_Mo_showText_90 (by decide) ?_
        exact ih _ _ _ v90z_2 v90z_3 v90z_4 t90z_sh hI hok (by omega) (by omega) (by omega) (by omega) (by omega) (by omega) (by omega) (by omega) (by omega) (by omega) (lv_sub hl [0, 1, 2, 3, 4] rfl) (by omega)
      refine lv_iload_n hx hb d_Mo_showText_14 rfl (lv_at hl 3 rfl) ?_
      refine sn_if_eq (tgt := 93) hx hb d_Mo_showText_15 (by decide) (fun b100 => ?_) (fun b100 => ?_)
      · refine lv_iload_n hx hb d_Mo_showText_93 rfl (lv_at hl 2 rfl) ?_
        subst hZ
        exact tz_ret (W.iret (v := v14z_2) hx hb hr (fun t ht hW => ⟨⟨fun v9 hv9 => by cases hv9; exact (Or.inr (⟨v14z_2, t14z_sh, rfl, hok, by omega, by omega, by omega, by omega, by omega, by omega, by rw [ht]; exact hI.1⟩)), fun x9 hx9 => (by cases hx9)⟩, hI.2.F ht⟩) hI.2.2.2 d_Mo_showText_94)
      · refine lv_aload_n hx hb d_Mo_showText_18 rfl (lv_at hl 0 rfl) ?_
        refine sv_gete (C := "StoryMachineModel") (T := T_Mo) (N := 51) hx hb hts in_Mo hown hK hI 0 kM_0 rfl 25 (by decide) (hts _ mw_1088) rfl d_Mo_showText_19 (fun z101 hz101 => ?_)
        refine sn_if_ne (tgt := 93) hx hb d_Mo_showText_22 (by decide) (fun b102 => ?_) (fun b102 => ?_)
        · omega
        · refine lv_aload_n hx hb d_Mo_showText_25 rfl (lv_at hl 0 rfl) ?_
          refine lv_iload_n hx hb d_Mo_showText_26 rfl (lv_at hl 2 rfl) ?_
          refine tz_call (A1 := ga (adM a) H.size) (tz_runV (C := "StoryMachineModel") (As := [.int v14z_2]) (rest := []) ⟨hx, hb, hml, hown, hts⟩ (c_Mo_wordAt l hfl dC dI cI cJ a H.size th tr dp zi co t14z_sh lt ts mf v14z_2 hok) (tx_cb (n := 1) hts rfl rfl ⟨Nat.le_of_ble_eq_true rfl, Nat.le_of_ble_eq_true rfl⟩ (tx_code.of (hts _ mw_1252)) (hts _ mw_12) (by decide +kernel) (hts _ mw_1249)) (hts _ mw_1251) (hts _ ms_Mo_wordAt) ⟨tz_blind, sv_recv (q0 := 0) hts in_Mo hK hI kM_0 rfl, fun U hU hW => ⟨rfl, by rw [hU], by rw [hU]; exact hI.1, va_K.moved hW.alike hK, hst _ _ hI.2 U hU hW⟩⟩ rfl rfl hl.1 rfl (lv_room (Nat.le_of_ble_eq_true rfl)) d_Mo_showText_27 ⟨Nat.le_of_ble_eq_true rfl, Nat.le_of_ble_eq_true rfl⟩) hI.2 (fun q _ h => ga_sub hAC hA0 hI.2 q h) (ga_sub hAC hA0 hI.2) (fun v t H1 locs1 ht hWt hpost _ _ hS => ?_) (fun x t H1 locs1 ht hWt hpost _ _ hS => (hpost.2 x rfl).elim)
          rcases hpost.1 _ rfl with ⟨z103, t_tr104, hv, c105, c105_0, c105_1, c105_2, hI1⟩ | ⟨z106, hv, c107, c107_0, c107_1, c107_2, c107_3, c107_4, hI1⟩
          · cases hv
            have hI : sI (dC, dI) vcl cI cJ (gsM a th t_tr104 dp zi co t14z_sh lt ts mf) A s.heap H1 locs1 := ⟨by rw [← ht]; exact hI1, hS⟩
            obtain ⟨-, ⟨o108, o109⟩, -, -, -, -, -, -, -⟩ := id c105
            clear hpost hI1 hS ht hWt
            revert hI; generalize H1 = H; generalize locs1 = locs; intro hI
            refine lv_istore (lv' := [(4, .int z103), (0, .ref (a 0)), (1, .int x1), (2, .int v14z_2), (3, .int v14z_3)]) hx hb d_Mo_showText_30 hl (by decide) rfl (fun ls hl => ?_)
            refine lv_iload_n hx hb d_Mo_showText_32 rfl (lv_at hl 3 rfl) ?_
            refine sn_iconst hx hb d_Mo_showText_33 (by decide) (fun z110 hz110 => ?_)
            refine sn_iadd hx hb d_Mo_showText_34 (by omega) (by omega) (fun z111 hz111 => ?_)
            refine lv_istore_n (lv' := [(2, .int z111), (4, .int z103), (0, .ref (a 0)), (1, .int x1), (3, .int v14z_3)]) hx hb d_Mo_showText_35 rfl hl (by decide) rfl (fun ls hl => ?_)
            refine lv_iload hx hb d_Mo_showText_36 (lv_at hl 1 rfl) ?_
            refine sn_ldc (n := 32768) hx hb hown (hts _ mw_1402) d_Mo_showText_38 (by decide) (fun z112 hz112 => ?_)
            refine sn_icmp_ge (tgt := 47) hx hb d_Mo_showText_40 (by decide) (fun b113 => ?_) (fun b113 => ?_)
            · refine sn_iconst hx hb d_Mo_showText_47 (by decide) (fun z114 hz114 => ?_)
              refine lv_istore_n (lv' := [(3, .int z114), (2, .int z111), (4, .int z103), (0, .ref (a 0)), (1, .int x1)]) hx hb d_Mo_showText_48 rfl hl (by decide) rfl (fun ls hl => ?_)
              refine lv_aload_n hx hb d_Mo_showText_49 rfl (lv_at hl 3 rfl) ?_
              refine sv_gete (C := "StoryMachineModel") (T := T_Mo) (N := 51) hx hb hts in_Mo hown hK hI 0 kM_0 rfl 25 (by decide) (hts _ mw_1088) rfl d_Mo_showText_50 (fun z115 hz115 => ?_)
              refine sn_if_ne (tgt := 90) hx hb d_Mo_showText_53 (by decide) (fun b116 => ?_) (fun b116 => ?_)
              · exact j90p _ _ _ z111 z114 z103 t_tr104 t14z_sh hI c105 (by omega) (by omega) (by omega) (by omega) (by omega) (by omega) (by omega) (by omega) (by omega) (lv_sub hl [3, 4, 1, 0, 2] rfl)
              · omega
            · refine sn_iconst hx hb d_Mo_showText_43 (by decide) (fun z117 hz117 => ?_)
              refine lv_goto (tgt := 48) hx hb d_Mo_showText_44 (by decide) ?_
              refine lv_istore_n (lv' := [(3, .int z117), (2, .int z111), (4, .int z103), (0, .ref (a 0)), (1, .int x1)]) hx hb d_Mo_showText_48 rfl hl (by decide) rfl (fun ls hl => ?_)
              refine lv_aload_n hx hb d_Mo_showText_49 rfl (lv_at hl 3 rfl) ?_
              refine sv_gete (C := "StoryMachineModel") (T := T_Mo) (N := 51) hx hb hts in_Mo hown hK hI 0 kM_0 rfl 25 (by decide) (hts _ mw_1088) rfl d_Mo_showText_50 (fun z118 hz118 => ?_)
              refine sn_if_ne (tgt := 90) hx hb d_Mo_showText_53 (by decide) (fun b119 => ?_) (fun b119 => ?_)
              · exact j90p _ _ _ z111 z117 z103 t_tr104 t14z_sh hI c105 (by omega) (by omega) (by omega) (by omega) (by omega) (by omega) (by omega) (by omega) (by omega) (lv_sub hl [3, 4, 1, 0, 2] rfl)
              · omega
          · cases hv
            have hI : sI (dC, dI) vcl cI cJ (gsM a th tr dp zi co t14z_sh lt ts mf) A s.heap H1 locs1 := ⟨by rw [← ht]; exact hI1, hS⟩
            clear hpost hI1 hS ht hWt
            revert hI; generalize H1 = H; generalize locs1 = locs; intro hI
            refine lv_istore (lv' := [(4, .int z106), (0, .ref (a 0)), (1, .int x1), (2, .int v14z_2), (3, .int v14z_3)]) hx hb d_Mo_showText_30 hl (by decide) rfl (fun ls hl => ?_)
            refine lv_iload_n hx hb d_Mo_showText_32 rfl (lv_at hl 3 rfl) ?_
            refine sn_iconst hx hb d_Mo_showText_33 (by decide) (fun z120 hz120 => ?_)
            refine sn_iadd hx hb d_Mo_showText_34 (by omega) (by omega) (fun z121 hz121 => ?_)
            refine lv_istore_n (lv' := [(2, .int z121), (4, .int z106), (0, .ref (a 0)), (1, .int x1), (3, .int v14z_3)]) hx hb d_Mo_showText_35 rfl hl (by decide) rfl (fun ls hl => ?_)
            refine lv_iload hx hb d_Mo_showText_36 (lv_at hl 1 rfl) ?_
            refine sn_ldc (n := 32768) hx hb hown (hts _ mw_1402) d_Mo_showText_38 (by decide) (fun z122 hz122 => ?_)
            refine sn_icmp_ge (tgt := 47) hx hb d_Mo_showText_40 (by decide) (fun b123 => ?_) (fun b123 => ?_)
            · refine sn_iconst hx hb d_Mo_showText_47 (by decide) (fun z124 hz124 => ?_)
              refine lv_istore_n (lv' := [(3, .int z124), (2, .int z121), (4, .int z106), (0, .ref (a 0)), (1, .int x1)]) hx hb d_Mo_showText_48 rfl hl (by decide) rfl (fun ls hl => ?_)
              refine lv_aload_n hx hb d_Mo_showText_49 rfl (lv_at hl 3 rfl) ?_
              refine sv_gete (C := "StoryMachineModel") (T := T_Mo) (N := 51) hx hb hts in_Mo hown hK hI 0 kM_0 rfl 25 (by decide) (hts _ mw_1088) rfl d_Mo_showText_50 (fun z125 hz125 => ?_)
              refine sn_if_ne (tgt := 90) hx hb d_Mo_showText_53 (by decide) (fun b126 => ?_) (fun b126 => ?_)
              · omega
              · refine lv_aload_n hx hb d_Mo_showText_56 rfl (lv_at hl 3 rfl) ?_
                refine lv_iload hx hb d_Mo_showText_57 (lv_at hl 2 rfl) ?_
                refine sn_sipush hx hb d_Mo_showText_59 (by decide) (fun z127 hz127 => ?_)
                refine sn_idiv (k := 1024) hx hb d_Mo_showText_62 (by omega) (by omega) (by omega) (fun z128 hz128 => ?_)
                refine sn_bipush hx hb d_Mo_showText_63 (by decide) (fun z129 hz129 => ?_)
                refine sn_irem (k := 32) hx hb d_Mo_showText_65 (by omega) (by omega) (by omega) (fun z130 hz130 => ?_)
                refine tz_call (A1 := ga (adM a) H.size) (tz_runV (C := "StoryMachineModel") (As := [.int z130]) (rest := []) ⟨hx, hb, hml, hown, hts⟩ (c_Mo_letter l hfl dC dI cI cJ a H.size th tr dp zi co t14z_sh lt ts mf z130 c107 (by omega) (by omega) (by omega)) (tx_cb (n := 1) hts rfl rfl ⟨Nat.le_of_ble_eq_true rfl, Nat.le_of_ble_eq_true rfl⟩ (tx_code.of (hts _ mw_1406)) (hts _ mw_12) (by decide +kernel) (hts _ mw_1403)) (hts _ mw_1405) (hts _ ms_Mo_letter) ⟨tz_blind, sv_recv (q0 := 0) hts in_Mo hK hI kM_0 rfl, fun U hU hW => ⟨rfl, by rw [hU], by rw [hU]; exact hI.1, va_K.moved hW.alike hK, hst _ _ hI.2 U hU hW⟩⟩ rfl rfl hl.1 rfl (lv_room (Nat.le_of_ble_eq_true rfl)) d_Mo_showText_66 ⟨Nat.le_of_ble_eq_true rfl, Nat.le_of_ble_eq_true rfl⟩) hI.2 (fun q _ h => ga_sub hAC hA0 hI.2 q h) (ga_sub hAC hA0 hI.2) (fun v t H1 locs1 ht hWt hpost _ _ hS => ?_) (fun x t H1 locs1 ht hWt hpost _ _ hS => (hpost.2 x rfl).elim)
                rcases hpost.1 _ rfl with ⟨hv, c131, c131_0, hI1⟩ | ⟨hv, c132, hI1⟩ | ⟨t_sh133, hv, c134, c134_0, c134_1, c134_2, hI1⟩
                · omega
                · cases hv
                  have hI : sI (dC, dI) vcl cI cJ (gsM a th tr dp zi co t14z_sh lt ts mf) A s.heap H1 locs1 := ⟨by rw [← ht]; exact hI1, hS⟩
                  clear hpost hI1 hS ht hWt
                  revert hI; generalize H1 = H; generalize locs1 = locs; intro hI
                  refine lv_aload_n hx hb d_Mo_showText_69 rfl (lv_at hl 3 rfl) ?_
                  refine lv_iload hx hb d_Mo_showText_70 (lv_at hl 2 rfl) ?_
                  refine sn_bipush hx hb d_Mo_showText_72 (by decide) (fun z135 hz135 => ?_)
                  refine sn_idiv (k := 32) hx hb d_Mo_showText_74 (by omega) (by omega) (by omega) (fun z136 hz136 => ?_)
                  refine sn_bipush hx hb d_Mo_showText_75 (by decide) (fun z137 hz137 => ?_)
                  refine sn_irem (k := 32) hx hb d_Mo_showText_77 (by omega) (by omega) (by omega) (fun z138 hz138 => ?_)
                  refine tz_call (A1 := ga (adM a) H.size) (tz_runV (C := "StoryMachineModel") (As := [.int z138]) (rest := []) ⟨hx, hb, hml, hown, hts⟩ (c_Mo_letter l hfl dC dI cI cJ a H.size th tr dp zi co t14z_sh lt ts mf z138 c132 (by omega) (by omega) (by omega)) (tx_cb (n := 1) hts rfl rfl ⟨Nat.le_of_ble_eq_true rfl, Nat.le_of_ble_eq_true rfl⟩ (tx_code.of (hts _ mw_1406)) (hts _ mw_12) (by decide +kernel) (hts _ mw_1403)) (hts _ mw_1405) (hts _ ms_Mo_letter) ⟨tz_blind, sv_recv (q0 := 0) hts in_Mo hK hI kM_0 rfl, fun U hU hW => ⟨rfl, by rw [hU], by rw [hU]; exact hI.1, va_K.moved hW.alike hK, hst _ _ hI.2 U hU hW⟩⟩ rfl rfl hl.1 rfl (lv_room (Nat.le_of_ble_eq_true rfl)) d_Mo_showText_78 ⟨Nat.le_of_ble_eq_true rfl, Nat.le_of_ble_eq_true rfl⟩) hI.2 (fun q _ h => ga_sub hAC hA0 hI.2 q h) (ga_sub hAC hA0 hI.2) (fun v t H1 locs1 ht hWt hpost _ _ hS => ?_) (fun x t H1 locs1 ht hWt hpost _ _ hS => (hpost.2 x rfl).elim)
                  rcases hpost.1 _ rfl with ⟨hv, c139, c139_0, hI1⟩ | ⟨hv, c140, hI1⟩ | ⟨t_sh141, hv, c142, c142_0, c142_1, c142_2, hI1⟩
                  · omega
                  · cases hv
                    have hI : sI (dC, dI) vcl cI cJ (gsM a th tr dp zi co t14z_sh lt ts mf) A s.heap H1 locs1 := ⟨by rw [← ht]; exact hI1, hS⟩
                    clear hpost hI1 hS ht hWt
                    revert hI; generalize H1 = H; generalize locs1 = locs; intro hI
                    refine lv_aload_n hx hb d_Mo_showText_81 rfl (lv_at hl 3 rfl) ?_
                    refine lv_iload hx hb d_Mo_showText_82 (lv_at hl 2 rfl) ?_
                    refine sn_bipush hx hb d_Mo_showText_84 (by decide) (fun z143 hz143 => ?_)
                    refine sn_irem (k := 32) hx hb d_Mo_showText_86 (by omega) (by omega) (by omega) (fun z144 hz144 => ?_)
                    refine tz_call (A1 := ga (adM a) H.size) (tz_runV (C := "StoryMachineModel") (As := [.int z144]) (rest := []) ⟨hx, hb, hml, hown, hts⟩ (c_Mo_letter l hfl dC dI cI cJ a H.size th tr dp zi co t14z_sh lt ts mf z144 c140 (by omega) (by omega) (by omega)) (tx_cb (n := 1) hts rfl rfl ⟨Nat.le_of_ble_eq_true rfl, Nat.le_of_ble_eq_true rfl⟩ (tx_code.of (hts _ mw_1406)) (hts _ mw_12) (by decide +kernel) (hts _ mw_1403)) (hts _ mw_1405) (hts _ ms_Mo_letter) ⟨tz_blind, sv_recv (q0 := 0) hts in_Mo hK hI kM_0 rfl, fun U hU hW => ⟨rfl, by rw [hU], by rw [hU]; exact hI.1, va_K.moved hW.alike hK, hst _ _ hI.2 U hU hW⟩⟩ rfl rfl hl.1 rfl (lv_room (Nat.le_of_ble_eq_true rfl)) d_Mo_showText_87 ⟨Nat.le_of_ble_eq_true rfl, Nat.le_of_ble_eq_true rfl⟩) hI.2 (fun q _ h => ga_sub hAC hA0 hI.2 q h) (ga_sub hAC hA0 hI.2) (fun v t H1 locs1 ht hWt hpost _ _ hS => ?_) (fun x t H1 locs1 ht hWt hpost _ _ hS => (hpost.2 x rfl).elim)
                    rcases hpost.1 _ rfl with ⟨hv, c145, c145_0, hI1⟩ | ⟨hv, c146, hI1⟩ | ⟨t_sh147, hv, c148, c148_0, c148_1, c148_2, hI1⟩
                    · omega
                    · cases hv
                      have hI : sI (dC, dI) vcl cI cJ (gsM a th tr dp zi co t14z_sh lt ts mf) A s.heap H1 locs1 := ⟨by rw [← ht]; exact hI1, hS⟩
                      clear hpost hI1 hS ht hWt
                      revert hI; generalize H1 = H; generalize locs1 = locs; intro hI
                      exact j90z _ _ _ z121 z124 z106 t14z_sh hI c146 (by omega) (by omega) (by omega) (by omega) (by omega) (by omega) (by omega) (by omega) (by omega) (lv_sub hl [3, 4, 1, 0, 2] rfl)
                    · cases hv
                      have hI : sI (dC, dI) vcl cI cJ (gsM a th tr dp zi co t_sh147 lt ts mf) A s.heap H1 locs1 := ⟨by rw [← ht]; exact hI1, hS⟩
                      obtain ⟨-, -, -, -, -, ⟨o149, o150⟩, -, -, -⟩ := id c148
                      clear hpost hI1 hS ht hWt
                      revert hI; generalize H1 = H; generalize locs1 = locs; intro hI
                      exact j90z _ _ _ z121 z124 z106 t_sh147 hI c148 (by omega) (by omega) (by omega) (by omega) (by omega) (by omega) (by omega) (by omega) (by omega) (lv_sub hl [3, 4, 1, 0, 2] rfl)
                  · cases hv
                    have hI : sI (dC, dI) vcl cI cJ (gsM a th tr dp zi co t_sh141 lt ts mf) A s.heap H1 locs1 := ⟨by rw [← ht]; exact hI1, hS⟩
                    obtain ⟨-, -, -, -, -, ⟨o151, o152⟩, -, -, -⟩ := id c142
                    clear hpost hI1 hS ht hWt
                    revert hI; generalize H1 = H; generalize locs1 = locs; intro hI
                    refine lv_aload_n hx hb d_Mo_showText_81 rfl (lv_at hl 3 rfl) ?_
                    refine lv_iload hx hb d_Mo_showText_82 (lv_at hl 2 rfl) ?_
                    refine sn_bipush hx hb d_Mo_showText_84 (by decide) (fun z153 hz153 => ?_)
                    refine sn_irem (k := 32) hx hb d_Mo_showText_86 (by omega) (by omega) (by omega) (fun z154 hz154 => ?_)
                    refine tz_call (A1 := ga (adM a) H.size) (tz_runV (C := "StoryMachineModel") (As := [.int z154]) (rest := []) ⟨hx, hb, hml, hown, hts⟩ (c_Mo_letter l hfl dC dI cI cJ a H.size th tr dp zi co t_sh141 lt ts mf z154 c142 (by omega) (by omega) (by omega)) (tx_cb (n := 1) hts rfl rfl ⟨Nat.le_of_ble_eq_true rfl, Nat.le_of_ble_eq_true rfl⟩ (tx_code.of (hts _ mw_1406)) (hts _ mw_12) (by decide +kernel) (hts _ mw_1403)) (hts _ mw_1405) (hts _ ms_Mo_letter) ⟨tz_blind, sv_recv (q0 := 0) hts in_Mo hK hI kM_0 rfl, fun U hU hW => ⟨rfl, by rw [hU], by rw [hU]; exact hI.1, va_K.moved hW.alike hK, hst _ _ hI.2 U hU hW⟩⟩ rfl rfl hl.1 rfl (lv_room (Nat.le_of_ble_eq_true rfl)) d_Mo_showText_87 ⟨Nat.le_of_ble_eq_true rfl, Nat.le_of_ble_eq_true rfl⟩) hI.2 (fun q _ h => ga_sub hAC hA0 hI.2 q h) (ga_sub hAC hA0 hI.2) (fun v t H1 locs1 ht hWt hpost _ _ hS => ?_) (fun x t H1 locs1 ht hWt hpost _ _ hS => (hpost.2 x rfl).elim)
                    rcases hpost.1 _ rfl with ⟨hv, c155, c155_0, hI1⟩ | ⟨hv, c156, hI1⟩ | ⟨t_sh157, hv, c158, c158_0, c158_1, c158_2, hI1⟩
                    · omega
                    · cases hv
                      have hI : sI (dC, dI) vcl cI cJ (gsM a th tr dp zi co t_sh141 lt ts mf) A s.heap H1 locs1 := ⟨by rw [← ht]; exact hI1, hS⟩
                      clear hpost hI1 hS ht hWt
                      revert hI; generalize H1 = H; generalize locs1 = locs; intro hI
                      exact j90z _ _ _ z121 z124 z106 t_sh141 hI c156 (by omega) (by omega) (by omega) (by omega) (by omega) (by omega) (by omega) (by omega) (by omega) (lv_sub hl [3, 4, 1, 0, 2] rfl)
                    · cases hv
                      have hI : sI (dC, dI) vcl cI cJ (gsM a th tr dp zi co t_sh157 lt ts mf) A s.heap H1 locs1 := ⟨by rw [← ht]; exact hI1, hS⟩
                      obtain ⟨-, -, -, -, -, ⟨o159, o160⟩, -, -, -⟩ := id c158
                      clear hpost hI1 hS ht hWt
                      revert hI; generalize H1 = H; generalize locs1 = locs; intro hI
                      exact j90z _ _ _ z121 z124 z106 t_sh157 hI c158 (by omega) (by omega) (by omega) (by omega) (by omega) (by omega) (by omega) (by omega) (by omega) (lv_sub hl [3, 4, 1, 0, 2] rfl)
                · cases hv
                  have hI : sI (dC, dI) vcl cI cJ (gsM a th tr dp zi co t_sh133 lt ts mf) A s.heap H1 locs1 := ⟨by rw [← ht]; exact hI1, hS⟩
                  obtain ⟨-, -, -, -, -, ⟨o161, o162⟩, -, -, -⟩ := id c134
                  clear hpost hI1 hS ht hWt
                  revert hI; generalize H1 = H; generalize locs1 = locs; intro hI
                  refine lv_aload_n hx hb d_Mo_showText_69 rfl (lv_at hl 3 rfl) ?_
                  refine lv_iload hx hb d_Mo_showText_70 (lv_at hl 2 rfl) ?_
                  refine sn_bipush hx hb d_Mo_showText_72 (by decide) (fun z163 hz163 => ?_)
                  refine sn_idiv (k := 32) hx hb d_Mo_showText_74 (by omega) (by omega) (by omega) (fun z164 hz164 => ?_)
                  refine sn_bipush hx hb d_Mo_showText_75 (by decide) (fun z165 hz165 => ?_)
                  refine sn_irem (k := 32) hx hb d_Mo_showText_77 (by omega) (by omega) (by omega) (fun z166 hz166 => ?_)
                  refine tz_call (A1 := ga (adM a) H.size) (tz_runV (C := "StoryMachineModel") (As := [.int z166]) (rest := []) ⟨hx, hb, hml, hown, hts⟩ (c_Mo_letter l hfl dC dI cI cJ a H.size th tr dp zi co t_sh133 lt ts mf z166 c134 (by omega) (by omega) (by omega)) (tx_cb (n := 1) hts rfl rfl ⟨Nat.le_of_ble_eq_true rfl, Nat.le_of_ble_eq_true rfl⟩ (tx_code.of (hts _ mw_1406)) (hts _ mw_12) (by decide +kernel) (hts _ mw_1403)) (hts _ mw_1405) (hts _ ms_Mo_letter) ⟨tz_blind, sv_recv (q0 := 0) hts in_Mo hK hI kM_0 rfl, fun U hU hW => ⟨rfl, by rw [hU], by rw [hU]; exact hI.1, va_K.moved hW.alike hK, hst _ _ hI.2 U hU hW⟩⟩ rfl rfl hl.1 rfl (lv_room (Nat.le_of_ble_eq_true rfl)) d_Mo_showText_78 ⟨Nat.le_of_ble_eq_true rfl, Nat.le_of_ble_eq_true rfl⟩) hI.2 (fun q _ h => ga_sub hAC hA0 hI.2 q h) (ga_sub hAC hA0 hI.2) (fun v t H1 locs1 ht hWt hpost _ _ hS => ?_) (fun x t H1 locs1 ht hWt hpost _ _ hS => (hpost.2 x rfl).elim)
                  rcases hpost.1 _ rfl with ⟨hv, c167, c167_0, hI1⟩ | ⟨hv, c168, hI1⟩ | ⟨t_sh169, hv, c170, c170_0, c170_1, c170_2, hI1⟩
                  · omega
                  · cases hv
                    have hI : sI (dC, dI) vcl cI cJ (gsM a th tr dp zi co t_sh133 lt ts mf) A s.heap H1 locs1 := ⟨by rw [← ht]; exact hI1, hS⟩
                    clear hpost hI1 hS ht hWt
                    revert hI; generalize H1 = H; generalize locs1 = locs; intro hI
                    refine lv_aload_n hx hb d_Mo_showText_81 rfl (lv_at hl 3 rfl) ?_
                    refine lv_iload hx hb d_Mo_showText_82 (lv_at hl 2 rfl) ?_
                    refine sn_bipush hx hb d_Mo_showText_84 (by decide) (fun z171 hz171 => ?_)
                    refine sn_irem (k := 32) hx hb d_Mo_showText_86 (by omega) (by omega) (by omega) (fun z172 hz172 => ?_)
                    refine tz_call (A1 := ga (adM a) H.size) (tz_runV (C := "StoryMachineModel") (As := [.int z172]) (rest := []) ⟨hx, hb, hml, hown, hts⟩ (c_Mo_letter l hfl dC dI cI cJ a H.size th tr dp zi co t_sh133 lt ts mf z172 c168 (by omega) (by omega) (by omega)) (tx_cb (n := 1) hts rfl rfl ⟨Nat.le_of_ble_eq_true rfl, Nat.le_of_ble_eq_true rfl⟩ (tx_code.of (hts _ mw_1406)) (hts _ mw_12) (by decide +kernel) (hts _ mw_1403)) (hts _ mw_1405) (hts _ ms_Mo_letter) ⟨tz_blind, sv_recv (q0 := 0) hts in_Mo hK hI kM_0 rfl, fun U hU hW => ⟨rfl, by rw [hU], by rw [hU]; exact hI.1, va_K.moved hW.alike hK, hst _ _ hI.2 U hU hW⟩⟩ rfl rfl hl.1 rfl (lv_room (Nat.le_of_ble_eq_true rfl)) d_Mo_showText_87 ⟨Nat.le_of_ble_eq_true rfl, Nat.le_of_ble_eq_true rfl⟩) hI.2 (fun q _ h => ga_sub hAC hA0 hI.2 q h) (ga_sub hAC hA0 hI.2) (fun v t H1 locs1 ht hWt hpost _ _ hS => ?_) (fun x t H1 locs1 ht hWt hpost _ _ hS => (hpost.2 x rfl).elim)
                    rcases hpost.1 _ rfl with ⟨hv, c173, c173_0, hI1⟩ | ⟨hv, c174, hI1⟩ | ⟨t_sh175, hv, c176, c176_0, c176_1, c176_2, hI1⟩
                    · omega
                    · cases hv
                      have hI : sI (dC, dI) vcl cI cJ (gsM a th tr dp zi co t_sh133 lt ts mf) A s.heap H1 locs1 := ⟨by rw [← ht]; exact hI1, hS⟩
                      clear hpost hI1 hS ht hWt
                      revert hI; generalize H1 = H; generalize locs1 = locs; intro hI
                      exact j90z _ _ _ z121 z124 z106 t_sh133 hI c174 (by omega) (by omega) (by omega) (by omega) (by omega) (by omega) (by omega) (by omega) (by omega) (lv_sub hl [3, 4, 1, 0, 2] rfl)
                    · cases hv
                      have hI : sI (dC, dI) vcl cI cJ (gsM a th tr dp zi co t_sh175 lt ts mf) A s.heap H1 locs1 := ⟨by rw [← ht]; exact hI1, hS⟩
                      obtain ⟨-, -, -, -, -, ⟨o177, o178⟩, -, -, -⟩ := id c176
                      clear hpost hI1 hS ht hWt
                      revert hI; generalize H1 = H; generalize locs1 = locs; intro hI
                      exact j90z _ _ _ z121 z124 z106 t_sh175 hI c176 (by omega) (by omega) (by omega) (by omega) (by omega) (by omega) (by omega) (by omega) (by omega) (lv_sub hl [3, 4, 1, 0, 2] rfl)
                  · cases hv
                    have hI : sI (dC, dI) vcl cI cJ (gsM a th tr dp zi co t_sh169 lt ts mf) A s.heap H1 locs1 := ⟨by rw [← ht]; exact hI1, hS⟩
                    obtain ⟨-, -, -, -, -, ⟨o179, o180⟩, -, -, -⟩ := id c170
                    clear hpost hI1 hS ht hWt
                    revert hI; generalize H1 = H; generalize locs1 = locs; intro hI
                    refine lv_aload_n hx hb d_Mo_showText_81 rfl (lv_at hl 3 rfl) ?_
                    refine lv_iload hx hb d_Mo_showText_82 (lv_at hl 2 rfl) ?_
                    refine sn_bipush hx hb d_Mo_showText_84 (by decide) (fun z181 hz181 => ?_)
                    refine sn_irem (k := 32) hx hb d_Mo_showText_86 (by omega) (by omega) (by omega) (fun z182 hz182 => ?_)
                    refine tz_call (A1 := ga (adM a) H.size) (tz_runV (C := "StoryMachineModel") (As := [.int z182]) (rest := []) ⟨hx, hb, hml, hown, hts⟩ (c_Mo_letter l hfl dC dI cI cJ a H.size th tr dp zi co t_sh169 lt ts mf z182 c170 (by omega) (by omega) (by omega)) (tx_cb (n := 1) hts rfl rfl ⟨Nat.le_of_ble_eq_true rfl, Nat.le_of_ble_eq_true rfl⟩ (tx_code.of (hts _ mw_1406)) (hts _ mw_12) (by decide +kernel) (hts _ mw_1403)) (hts _ mw_1405) (hts _ ms_Mo_letter) ⟨tz_blind, sv_recv (q0 := 0) hts in_Mo hK hI kM_0 rfl, fun U hU hW => ⟨rfl, by rw [hU], by rw [hU]; exact hI.1, va_K.moved hW.alike hK, hst _ _ hI.2 U hU hW⟩⟩ rfl rfl hl.1 rfl (lv_room (Nat.le_of_ble_eq_true rfl)) d_Mo_showText_87 ⟨Nat.le_of_ble_eq_true rfl, Nat.le_of_ble_eq_true rfl⟩) hI.2 (fun q _ h => ga_sub hAC hA0 hI.2 q h) (ga_sub hAC hA0 hI.2) (fun v t H1 locs1 ht hWt hpost _ _ hS => ?_) (fun x t H1 locs1 ht hWt hpost _ _ hS => (hpost.2 x rfl).elim)
                    rcases hpost.1 _ rfl with ⟨hv, c183, c183_0, hI1⟩ | ⟨hv, c184, hI1⟩ | ⟨t_sh185, hv, c186, c186_0, c186_1, c186_2, hI1⟩
                    · omega
                    · cases hv
                      have hI : sI (dC, dI) vcl cI cJ (gsM a th tr dp zi co t_sh169 lt ts mf) A s.heap H1 locs1 := ⟨by rw [← ht]; exact hI1, hS⟩
                      clear hpost hI1 hS ht hWt
                      revert hI; generalize H1 = H; generalize locs1 = locs; intro hI
                      exact j90z _ _ _ z121 z124 z106 t_sh169 hI c184 (by omega) (by omega) (by omega) (by omega) (by omega) (by omega) (by omega) (by omega) (by omega) (lv_sub hl [3, 4, 1, 0, 2] rfl)
                    · cases hv
                      have hI : sI (dC, dI) vcl cI cJ (gsM a th tr dp zi co t_sh185 lt ts mf) A s.heap H1 locs1 := ⟨by rw [← ht]; exact hI1, hS⟩
                      obtain ⟨-, -, -, -, -, ⟨o187, o188⟩, -, -, -⟩ := id c186
                      clear hpost hI1 hS ht hWt
                      revert hI; generalize H1 = H; generalize locs1 = locs; intro hI
                      exact j90z _ _ _ z121 z124 z106 t_sh185 hI c186 (by omega) (by omega) (by omega) (by omega) (by omega) (by omega) (by omega) (by omega) (by omega) (lv_sub hl [3, 4, 1, 0, 2] rfl)
            · refine sn_iconst hx hb d_Mo_showText_43 (by decide) (fun z189 hz189 => ?_)
              refine lv_goto (tgt := 48) hx hb d_Mo_showText_44 (by decide) ?_
              refine lv_istore_n (lv' := [(3, .int z189), (2, .int z121), (4, .int z106), (0, .ref (a 0)), (1, .int x1)]) hx hb d_Mo_showText_48 rfl hl (by decide) rfl (fun ls hl => ?_)
              refine lv_aload_n hx hb d_Mo_showText_49 rfl (lv_at hl 3 rfl) ?_
              refine sv_gete (C := "StoryMachineModel") (T := T_Mo) (N := 51) hx hb hts in_Mo hown hK hI 0 kM_0 rfl 25 (by decide) (hts _ mw_1088) rfl d_Mo_showText_50 (fun z190 hz190 => ?_)
              refine sn_if_ne (tgt := 90) hx hb d_Mo_showText_53 (by decide) (fun b191 => ?_) (fun b191 => ?_)
              · omega
              · refine lv_aload_n hx hb d_Mo_showText_56 rfl (lv_at hl 3 rfl) ?_
                refine lv_iload hx hb d_Mo_showText_57 (lv_at hl 2 rfl) ?_
                refine sn_sipush hx hb d_Mo_showText_59 (by decide) (fun z192 hz192 => ?_)
                refine sn_idiv (k := 1024) hx hb d_Mo_showText_62 (by omega) (by omega) (by omega) (fun z193 hz193 => ?_)
                refine sn_bipush hx hb d_Mo_showText_63 (by decide) (fun z194 hz194 => ?_)
                refine sn_irem (k := 32) hx hb d_Mo_showText_65 (by omega) (by omega) (by omega) (fun z195 hz195 => ?_)
                refine tz_call (A1 := ga (adM a) H.size) (tz_runV (C := "StoryMachineModel") (As := [.int z195]) (rest := []) ⟨hx, hb, hml, hown, hts⟩ (c_Mo_letter l hfl dC dI cI cJ a H.size th tr dp zi co t14z_sh lt ts mf z195 c107 (by omega) (by omega) (by omega)) (tx_cb (n := 1) hts rfl rfl ⟨Nat.le_of_ble_eq_true rfl, Nat.le_of_ble_eq_true rfl⟩ (tx_code.of (hts _ mw_1406)) (hts _ mw_12) (by decide +kernel) (hts _ mw_1403)) (hts _ mw_1405) (hts _ ms_Mo_letter) ⟨tz_blind, sv_recv (q0 := 0) hts in_Mo hK hI kM_0 rfl, fun U hU hW => ⟨rfl, by rw [hU], by rw [hU]; exact hI.1, va_K.moved hW.alike hK, hst _ _ hI.2 U hU hW⟩⟩ rfl rfl hl.1 rfl (lv_room (Nat.le_of_ble_eq_true rfl)) d_Mo_showText_66 ⟨Nat.le_of_ble_eq_true rfl, Nat.le_of_ble_eq_true rfl⟩) hI.2 (fun q _ h => ga_sub hAC hA0 hI.2 q h) (ga_sub hAC hA0 hI.2) (fun v t H1 locs1 ht hWt hpost _ _ hS => ?_) (fun x t H1 locs1 ht hWt hpost _ _ hS => (hpost.2 x rfl).elim)
                rcases hpost.1 _ rfl with ⟨hv, c196, c196_0, hI1⟩ | ⟨hv, c197, hI1⟩ | ⟨t_sh198, hv, c199, c199_0, c199_1, c199_2, hI1⟩
                · omega
                · cases hv
                  have hI : sI (dC, dI) vcl cI cJ (gsM a th tr dp zi co t14z_sh lt ts mf) A s.heap H1 locs1 := ⟨by rw [← ht]; exact hI1, hS⟩
                  clear hpost hI1 hS ht hWt
                  revert hI; generalize H1 = H; generalize locs1 = locs; intro hI
                  refine lv_aload_n hx hb d_Mo_showText_69 rfl (lv_at hl 3 rfl) ?_
                  refine lv_iload hx hb d_Mo_showText_70 (lv_at hl 2 rfl) ?_
                  refine sn_bipush hx hb d_Mo_showText_72 (by decide) (fun z200 hz200 => ?_)
                  refine sn_idiv (k := 32) hx hb d_Mo_showText_74 (by omega) (by omega) (by omega) (fun z201 hz201 => ?_)
                  refine sn_bipush hx hb d_Mo_showText_75 (by decide) (fun z202 hz202 => ?_)
                  refine sn_irem (k := 32) hx hb d_Mo_showText_77 (by omega) (by omega) (by omega) (fun z203 hz203 => ?_)
                  refine tz_call (A1 := ga (adM a) H.size) (tz_runV (C := "StoryMachineModel") (As := [.int z203]) (rest := []) ⟨hx, hb, hml, hown, hts⟩ (c_Mo_letter l hfl dC dI cI cJ a H.size th tr dp zi co t14z_sh lt ts mf z203 c197 (by omega) (by omega) (by omega)) (tx_cb (n := 1) hts rfl rfl ⟨Nat.le_of_ble_eq_true rfl, Nat.le_of_ble_eq_true rfl⟩ (tx_code.of (hts _ mw_1406)) (hts _ mw_12) (by decide +kernel) (hts _ mw_1403)) (hts _ mw_1405) (hts _ ms_Mo_letter) ⟨tz_blind, sv_recv (q0 := 0) hts in_Mo hK hI kM_0 rfl, fun U hU hW => ⟨rfl, by rw [hU], by rw [hU]; exact hI.1, va_K.moved hW.alike hK, hst _ _ hI.2 U hU hW⟩⟩ rfl rfl hl.1 rfl (lv_room (Nat.le_of_ble_eq_true rfl)) d_Mo_showText_78 ⟨Nat.le_of_ble_eq_true rfl, Nat.le_of_ble_eq_true rfl⟩) hI.2 (fun q _ h => ga_sub hAC hA0 hI.2 q h) (ga_sub hAC hA0 hI.2) (fun v t H1 locs1 ht hWt hpost _ _ hS => ?_) (fun x t H1 locs1 ht hWt hpost _ _ hS => (hpost.2 x rfl).elim)
                  rcases hpost.1 _ rfl with ⟨hv, c204, c204_0, hI1⟩ | ⟨hv, c205, hI1⟩ | ⟨t_sh206, hv, c207, c207_0, c207_1, c207_2, hI1⟩
                  · omega
                  · cases hv
                    have hI : sI (dC, dI) vcl cI cJ (gsM a th tr dp zi co t14z_sh lt ts mf) A s.heap H1 locs1 := ⟨by rw [← ht]; exact hI1, hS⟩
                    clear hpost hI1 hS ht hWt
                    revert hI; generalize H1 = H; generalize locs1 = locs; intro hI
                    refine lv_aload_n hx hb d_Mo_showText_81 rfl (lv_at hl 3 rfl) ?_
                    refine lv_iload hx hb d_Mo_showText_82 (lv_at hl 2 rfl) ?_
                    refine sn_bipush hx hb d_Mo_showText_84 (by decide) (fun z208 hz208 => ?_)
                    refine sn_irem (k := 32) hx hb d_Mo_showText_86 (by omega) (by omega) (by omega) (fun z209 hz209 => ?_)
                    refine tz_call (A1 := ga (adM a) H.size) (tz_runV (C := "StoryMachineModel") (As := [.int z209]) (rest := []) ⟨hx, hb, hml, hown, hts⟩ (c_Mo_letter l hfl dC dI cI cJ a H.size th tr dp zi co t14z_sh lt ts mf z209 c205 (by omega) (by omega) (by omega)) (tx_cb (n := 1) hts rfl rfl ⟨Nat.le_of_ble_eq_true rfl, Nat.le_of_ble_eq_true rfl⟩ (tx_code.of (hts _ mw_1406)) (hts _ mw_12) (by decide +kernel) (hts _ mw_1403)) (hts _ mw_1405) (hts _ ms_Mo_letter) ⟨tz_blind, sv_recv (q0 := 0) hts in_Mo hK hI kM_0 rfl, fun U hU hW => ⟨rfl, by rw [hU], by rw [hU]; exact hI.1, va_K.moved hW.alike hK, hst _ _ hI.2 U hU hW⟩⟩ rfl rfl hl.1 rfl (lv_room (Nat.le_of_ble_eq_true rfl)) d_Mo_showText_87 ⟨Nat.le_of_ble_eq_true rfl, Nat.le_of_ble_eq_true rfl⟩) hI.2 (fun q _ h => ga_sub hAC hA0 hI.2 q h) (ga_sub hAC hA0 hI.2) (fun v t H1 locs1 ht hWt hpost _ _ hS => ?_) (fun x t H1 locs1 ht hWt hpost _ _ hS => (hpost.2 x rfl).elim)
                    rcases hpost.1 _ rfl with ⟨hv, c210, c210_0, hI1⟩ | ⟨hv, c211, hI1⟩ | ⟨t_sh212, hv, c213, c213_0, c213_1, c213_2, hI1⟩
                    · omega
                    · cases hv
                      have hI : sI (dC, dI) vcl cI cJ (gsM a th tr dp zi co t14z_sh lt ts mf) A s.heap H1 locs1 := ⟨by rw [← ht]; exact hI1, hS⟩
                      clear hpost hI1 hS ht hWt
                      revert hI; generalize H1 = H; generalize locs1 = locs; intro hI
                      exact j90z _ _ _ z121 z189 z106 t14z_sh hI c211 (by omega) (by omega) (by omega) (by omega) (by omega) (by omega) (by omega) (by omega) (by omega) (lv_sub hl [3, 4, 1, 0, 2] rfl)
                    · cases hv
                      have hI : sI (dC, dI) vcl cI cJ (gsM a th tr dp zi co t_sh212 lt ts mf) A s.heap H1 locs1 := ⟨by rw [← ht]; exact hI1, hS⟩
                      obtain ⟨-, -, -, -, -, ⟨o214, o215⟩, -, -, -⟩ := id c213
                      clear hpost hI1 hS ht hWt
                      revert hI; generalize H1 = H; generalize locs1 = locs; intro hI
                      exact j90z _ _ _ z121 z189 z106 t_sh212 hI c213 (by omega) (by omega) (by omega) (by omega) (by omega) (by omega) (by omega) (by omega) (by omega) (lv_sub hl [3, 4, 1, 0, 2] rfl)
                  · cases hv
                    have hI : sI (dC, dI) vcl cI cJ (gsM a th tr dp zi co t_sh206 lt ts mf) A s.heap H1 locs1 := ⟨by rw [← ht]; exact hI1, hS⟩
                    obtain ⟨-, -, -, -, -, ⟨o216, o217⟩, -, -, -⟩ := id c207
                    clear hpost hI1 hS ht hWt
                    revert hI; generalize H1 = H; generalize locs1 = locs; intro hI
                    refine lv_aload_n hx hb d_Mo_showText_81 rfl (lv_at hl 3 rfl) ?_
                    refine lv_iload hx hb d_Mo_showText_82 (lv_at hl 2 rfl) ?_
                    refine sn_bipush hx hb d_Mo_showText_84 (by decide) (fun z218 hz218 => ?_)
                    refine sn_irem (k := 32) hx hb d_Mo_showText_86 (by omega) (by omega) (by omega) (fun z219 hz219 => ?_)
                    refine tz_call (A1 := ga (adM a) H.size) (tz_runV (C := "StoryMachineModel") (As := [.int z219]) (rest := []) ⟨hx, hb, hml, hown, hts⟩ (c_Mo_letter l hfl dC dI cI cJ a H.size th tr dp zi co t_sh206 lt ts mf z219 c207 (by omega) (by omega) (by omega)) (tx_cb (n := 1) hts rfl rfl ⟨Nat.le_of_ble_eq_true rfl, Nat.le_of_ble_eq_true rfl⟩ (tx_code.of (hts _ mw_1406)) (hts _ mw_12) (by decide +kernel) (hts _ mw_1403)) (hts _ mw_1405) (hts _ ms_Mo_letter) ⟨tz_blind, sv_recv (q0 := 0) hts in_Mo hK hI kM_0 rfl, fun U hU hW => ⟨rfl, by rw [hU], by rw [hU]; exact hI.1, va_K.moved hW.alike hK, hst _ _ hI.2 U hU hW⟩⟩ rfl rfl hl.1 rfl (lv_room (Nat.le_of_ble_eq_true rfl)) d_Mo_showText_87 ⟨Nat.le_of_ble_eq_true rfl, Nat.le_of_ble_eq_true rfl⟩) hI.2 (fun q _ h => ga_sub hAC hA0 hI.2 q h) (ga_sub hAC hA0 hI.2) (fun v t H1 locs1 ht hWt hpost _ _ hS => ?_) (fun x t H1 locs1 ht hWt hpost _ _ hS => (hpost.2 x rfl).elim)
                    rcases hpost.1 _ rfl with ⟨hv, c220, c220_0, hI1⟩ | ⟨hv, c221, hI1⟩ | ⟨t_sh222, hv, c223, c223_0, c223_1, c223_2, hI1⟩
                    · omega
                    · cases hv
                      have hI : sI (dC, dI) vcl cI cJ (gsM a th tr dp zi co t_sh206 lt ts mf) A s.heap H1 locs1 := ⟨by rw [← ht]; exact hI1, hS⟩
                      clear hpost hI1 hS ht hWt
                      revert hI; generalize H1 = H; generalize locs1 = locs; intro hI
                      exact j90z _ _ _ z121 z189 z106 t_sh206 hI c221 (by omega) (by omega) (by omega) (by omega) (by omega) (by omega) (by omega) (by omega) (by omega) (lv_sub hl [3, 4, 1, 0, 2] rfl)
                    · cases hv
                      have hI : sI (dC, dI) vcl cI cJ (gsM a th tr dp zi co t_sh222 lt ts mf) A s.heap H1 locs1 := ⟨by rw [← ht]; exact hI1, hS⟩
                      obtain ⟨-, -, -, -, -, ⟨o224, o225⟩, -, -, -⟩ := id c223
                      clear hpost hI1 hS ht hWt
                      revert hI; generalize H1 = H; generalize locs1 = locs; intro hI
                      exact j90z _ _ _ z121 z189 z106 t_sh222 hI c223 (by omega) (by omega) (by omega) (by omega) (by omega) (by omega) (by omega) (by omega) (by omega) (lv_sub hl [3, 4, 1, 0, 2] rfl)
                · cases hv
                  have hI : sI (dC, dI) vcl cI cJ (gsM a th tr dp zi co t_sh198 lt ts mf) A s.heap H1 locs1 := ⟨by rw [← ht]; exact hI1, hS⟩
                  obtain ⟨-, -, -, -, -, ⟨o226, o227⟩, -, -, -⟩ := id c199
                  clear hpost hI1 hS ht hWt
                  revert hI; generalize H1 = H; generalize locs1 = locs; intro hI
                  refine lv_aload_n hx hb d_Mo_showText_69 rfl (lv_at hl 3 rfl) ?_
                  refine lv_iload hx hb d_Mo_showText_70 (lv_at hl 2 rfl) ?_
                  refine sn_bipush hx hb d_Mo_showText_72 (by decide) (fun z228 hz228 => ?_)
                  refine sn_idiv (k := 32) hx hb d_Mo_showText_74 (by omega) (by omega) (by omega) (fun z229 hz229 => ?_)
                  refine sn_bipush hx hb d_Mo_showText_75 (by decide) (fun z230 hz230 => ?_)
                  refine sn_irem (k := 32) hx hb d_Mo_showText_77 (by omega) (by omega) (by omega) (fun z231 hz231 => ?_)
                  refine tz_call (A1 := ga (adM a) H.size) (tz_runV (C := "StoryMachineModel") (As := [.int z231]) (rest := []) ⟨hx, hb, hml, hown, hts⟩ (c_Mo_letter l hfl dC dI cI cJ a H.size th tr dp zi co t_sh198 lt ts mf z231 c199 (by omega) (by omega) (by omega)) (tx_cb (n := 1) hts rfl rfl ⟨Nat.le_of_ble_eq_true rfl, Nat.le_of_ble_eq_true rfl⟩ (tx_code.of (hts _ mw_1406)) (hts _ mw_12) (by decide +kernel) (hts _ mw_1403)) (hts _ mw_1405) (hts _ ms_Mo_letter) ⟨tz_blind, sv_recv (q0 := 0) hts in_Mo hK hI kM_0 rfl, fun U hU hW => ⟨rfl, by rw [hU], by rw [hU]; exact hI.1, va_K.moved hW.alike hK, hst _ _ hI.2 U hU hW⟩⟩ rfl rfl hl.1 rfl (lv_room (Nat.le_of_ble_eq_true rfl)) d_Mo_showText_78 ⟨Nat.le_of_ble_eq_true rfl, Nat.le_of_ble_eq_true rfl⟩) hI.2 (fun q _ h => ga_sub hAC hA0 hI.2 q h) (ga_sub hAC hA0 hI.2) (fun v t H1 locs1 ht hWt hpost _ _ hS => ?_) (fun x t H1 locs1 ht hWt hpost _ _ hS => (hpost.2 x rfl).elim)
                  rcases hpost.1 _ rfl with ⟨hv, c232, c232_0, hI1⟩ | ⟨hv, c233, hI1⟩ | ⟨t_sh234, hv, c235, c235_0, c235_1, c235_2, hI1⟩
                  · omega
                  · cases hv
                    have hI : sI (dC, dI) vcl cI cJ (gsM a th tr dp zi co t_sh198 lt ts mf) A s.heap H1 locs1 := ⟨by rw [← ht]; exact hI1, hS⟩
                    clear hpost hI1 hS ht hWt
                    revert hI; generalize H1 = H; generalize locs1 = locs; intro hI
                    refine lv_aload_n hx hb d_Mo_showText_81 rfl (lv_at hl 3 rfl) ?_
                    refine lv_iload hx hb d_Mo_showText_82 (lv_at hl 2 rfl) ?_
                    refine sn_bipush hx hb d_Mo_showText_84 (by decide) (fun z236 hz236 => ?_)
                    refine sn_irem (k := 32) hx hb d_Mo_showText_86 (by omega) (by omega) (by omega) (fun z237 hz237 => ?_)
                    refine tz_call (A1 := ga (adM a) H.size) (tz_runV (C := "StoryMachineModel") (As := [.int z237]) (rest := []) ⟨hx, hb, hml, hown, hts⟩ (c_Mo_letter l hfl dC dI cI cJ a H.size th tr dp zi co t_sh198 lt ts mf z237 c233 (by omega) (by omega) (by omega)) (tx_cb (n := 1) hts rfl rfl ⟨Nat.le_of_ble_eq_true rfl, Nat.le_of_ble_eq_true rfl⟩ (tx_code.of (hts _ mw_1406)) (hts _ mw_12) (by decide +kernel) (hts _ mw_1403)) (hts _ mw_1405) (hts _ ms_Mo_letter) ⟨tz_blind, sv_recv (q0 := 0) hts in_Mo hK hI kM_0 rfl, fun U hU hW => ⟨rfl, by rw [hU], by rw [hU]; exact hI.1, va_K.moved hW.alike hK, hst _ _ hI.2 U hU hW⟩⟩ rfl rfl hl.1 rfl (lv_room (Nat.le_of_ble_eq_true rfl)) d_Mo_showText_87 ⟨Nat.le_of_ble_eq_true rfl, Nat.le_of_ble_eq_true rfl⟩) hI.2 (fun q _ h => ga_sub hAC hA0 hI.2 q h) (ga_sub hAC hA0 hI.2) (fun v t H1 locs1 ht hWt hpost _ _ hS => ?_) (fun x t H1 locs1 ht hWt hpost _ _ hS => (hpost.2 x rfl).elim)
                    rcases hpost.1 _ rfl with ⟨hv, c238, c238_0, hI1⟩ | ⟨hv, c239, hI1⟩ | ⟨t_sh240, hv, c241, c241_0, c241_1, c241_2, hI1⟩
                    · omega
                    · cases hv
                      have hI : sI (dC, dI) vcl cI cJ (gsM a th tr dp zi co t_sh198 lt ts mf) A s.heap H1 locs1 := ⟨by rw [← ht]; exact hI1, hS⟩
                      clear hpost hI1 hS ht hWt
                      revert hI; generalize H1 = H; generalize locs1 = locs; intro hI
                      exact j90z _ _ _ z121 z189 z106 t_sh198 hI c239 (by omega) (by omega) (by omega) (by omega) (by omega) (by omega) (by omega) (by omega) (by omega) (lv_sub hl [3, 4, 1, 0, 2] rfl)
                    · cases hv
                      have hI : sI (dC, dI) vcl cI cJ (gsM a th tr dp zi co t_sh240 lt ts mf) A s.heap H1 locs1 := ⟨by rw [← ht]; exact hI1, hS⟩
                      obtain ⟨-, -, -, -, -, ⟨o242, o243⟩, -, -, -⟩ := id c241
                      clear hpost hI1 hS ht hWt
                      revert hI; generalize H1 = H; generalize locs1 = locs; intro hI
                      exact j90z _ _ _ z121 z189 z106 t_sh240 hI c241 (by omega) (by omega) (by omega) (by omega) (by omega) (by omega) (by omega) (by omega) (by omega) (lv_sub hl [3, 4, 1, 0, 2] rfl)
                  · cases hv
                    have hI : sI (dC, dI) vcl cI cJ (gsM a th tr dp zi co t_sh234 lt ts mf) A s.heap H1 locs1 := ⟨by rw [← ht]; exact hI1, hS⟩
                    obtain ⟨-, -, -, -, -, ⟨o244, o245⟩, -, -, -⟩ := id c235
                    clear hpost hI1 hS ht hWt
                    revert hI; generalize H1 = H; generalize locs1 = locs; intro hI
                    refine lv_aload_n hx hb d_Mo_showText_81 rfl (lv_at hl 3 rfl) ?_
                    refine lv_iload hx hb d_Mo_showText_82 (lv_at hl 2 rfl) ?_
                    refine sn_bipush hx hb d_Mo_showText_84 (by decide) (fun z246 hz246 => ?_)
                    refine sn_irem (k := 32) hx hb d_Mo_showText_86 (by omega) (by omega) (by omega) (fun z247 hz247 => ?_)
                    refine tz_call (A1 := ga (adM a) H.size) (tz_runV (C := "StoryMachineModel") (As := [.int z247]) (rest := []) ⟨hx, hb, hml, hown, hts⟩ (c_Mo_letter l hfl dC dI cI cJ a H.size th tr dp zi co t_sh234 lt ts mf z247 c235 (by omega) (by omega) (by omega)) (tx_cb (n := 1) hts rfl rfl ⟨Nat.le_of_ble_eq_true rfl, Nat.le_of_ble_eq_true rfl⟩ (tx_code.of (hts _ mw_1406)) (hts _ mw_12) (by decide +kernel) (hts _ mw_1403)) (hts _ mw_1405) (hts _ ms_Mo_letter) ⟨tz_blind, sv_recv (q0 := 0) hts in_Mo hK hI kM_0 rfl, fun U hU hW => ⟨rfl, by rw [hU], by rw [hU]; exact hI.1, va_K.moved hW.alike hK, hst _ _ hI.2 U hU hW⟩⟩ rfl rfl hl.1 rfl (lv_room (Nat.le_of_ble_eq_true rfl)) d_Mo_showText_87 ⟨Nat.le_of_ble_eq_true rfl, Nat.le_of_ble_eq_true rfl⟩) hI.2 (fun q _ h => ga_sub hAC hA0 hI.2 q h) (ga_sub hAC hA0 hI.2) (fun v t H1 locs1 ht hWt hpost _ _ hS => ?_) (fun x t H1 locs1 ht hWt hpost _ _ hS => (hpost.2 x rfl).elim)
                    rcases hpost.1 _ rfl with ⟨hv, c248, c248_0, hI1⟩ | ⟨hv, c249, hI1⟩ | ⟨t_sh250, hv, c251, c251_0, c251_1, c251_2, hI1⟩
                    · omega
                    · cases hv
                      have hI : sI (dC, dI) vcl cI cJ (gsM a th tr dp zi co t_sh234 lt ts mf) A s.heap H1 locs1 := ⟨by rw [← ht]; exact hI1, hS⟩
                      clear hpost hI1 hS ht hWt
                      revert hI; generalize H1 = H; generalize locs1 = locs; intro hI
                      exact j90z _ _ _ z121 z189 z106 t_sh234 hI c249 (by omega) (by omega) (by omega) (by omega) (by omega) (by omega) (by omega) (by omega) (by omega) (lv_sub hl [3, 4, 1, 0, 2] rfl)
                    · cases hv
                      have hI : sI (dC, dI) vcl cI cJ (gsM a th tr dp zi co t_sh250 lt ts mf) A s.heap H1 locs1 := ⟨by rw [← ht]; exact hI1, hS⟩
                      obtain ⟨-, -, -, -, -, ⟨o252, o253⟩, -, -, -⟩ := id c251
                      clear hpost hI1 hS ht hWt
                      revert hI; generalize H1 = H; generalize locs1 = locs; intro hI
                      exact j90z _ _ _ z121 z189 z106 t_sh250 hI c251 (by omega) (by omega) (by omega) (by omega) (by omega) (by omega) (by omega) (by omega) (by omega) (lv_sub hl [3, 4, 1, 0, 2] rfl)
  have j90z : ∀ (H : Heap) (locs : List Loc) (ls : Array Slot) (v90z_2 v90z_3 v90z_4 : Int32) (t90z_sh : Int), sI (dC, dI) vcl cI cJ (gsM a th tr dp zi co t90z_sh lt ts mf) A s.heap H locs → okM th tr dp zi co t90z_sh lt ts mf → 2 ≤ v90z_2.toInt → v90z_2.toInt ≤ 513 → 0 ≤ v90z_3.toInt → v90z_3.toInt ≤ 1 → 0 ≤ v90z_4.toInt → v90z_4.toInt ≤ 65535 → tr ≤ 0 → 0 ≤ x1.toInt → x1.toInt ≤ 511 → lv_has ls 5 [(0, .ref (a 0)), (1, .int x1), (2, .int v90z_2), (3, .int v90z_3), (4, .int v90z_4)] → W p l e (headSpec tw_tbl rm_Mo_showText).room s m ([.ref (a 0), .int x1] : List Value).toArray below meth c H locs 0 0 Z (F0 m 90 ls []) := by
    intro H locs ls v90z_2 v90z_3 v90z_4 t90z_sh hI hok g90_0 g90_1 g90_2 g90_3 g90_4 g90_5 g90_6 g90_7 g90_8 hl
    obtain ⟨⟨o254, o255⟩, ⟨o256, o257⟩, ⟨o258, o259⟩, ⟨o260, o261⟩, ⟨o262, o263⟩, ⟨o264, o265⟩, ⟨o266, o267⟩, ⟨o268, o269⟩, -⟩ := id hok
    refine lv_goto (tgt := 14) hx hb d_Mo_showText_90 (by decide) ?_
    exact j14z 515 _ _ _ v90z_2 v90z_3 v90z_4 t90z_sh hI hok (by omega) (by omega) (by omega) (by omega) (by omega) (by omega) (by omega) (by omega) (by omega) (by omega) (lv_sub hl [0, 1, 2, 3, 4] rfl) (by omega)
  have j14u : ∀ (H : Heap) (locs : List Loc) (ls : Array Slot) (v14u_3 : Int32), sI (dC, dI) vcl cI cJ (gsM a th tr dp zi co sh lt ts mf) A s.heap H locs → okM th tr dp zi co sh lt ts mf → 1 ≤ v14u_3.toInt → v14u_3.toInt ≤ 1 → sh = sh → lv_has ls 5 [(0, .ref (a 0)), (1, .int x1), (2, .int x1), (3, .int v14u_3)] → W p l e (headSpec tw_tbl rm_Mo_showText).room s m ([.ref (a 0), .int x1] : List Value).toArray below meth c H locs 0 0 Z (F0 m 14 ls []) := by
    intro H locs ls v14u_3 hI hok g14_0 g14_1 g14_2 hl
    obtain ⟨⟨o270, o271⟩, ⟨o272, o273⟩, ⟨o274, o275⟩, ⟨o276, o277⟩, ⟨o278, o279⟩, ⟨o280, o281⟩, ⟨o282, o283⟩, ⟨o284, o285⟩, -⟩ := id hok
    refine lv_iload_n hx hb d_Mo_showText_14 rfl (lv_at hl 3 rfl) ?_
    refine sn_if_eq (tgt := 93) hx hb d_Mo_showText_15 (by decide) (fun b286 => ?_) (fun b286 => ?_)
    · omega
    · refine lv_aload_n hx hb d_Mo_showText_18 rfl (lv_at hl 0 rfl) ?_
      refine sv_gete (C := "StoryMachineModel") (T := T_Mo) (N := 51) hx hb hts in_Mo hown hK hI 0 kM_0 rfl 25 (by decide) (hts _ mw_1088) rfl d_Mo_showText_19 (fun z287 hz287 => ?_)
      refine sn_if_ne (tgt := 93) hx hb d_Mo_showText_22 (by decide) (fun b288 => ?_) (fun b288 => ?_)
      · refine lv_iload_n hx hb d_Mo_showText_93 rfl (lv_at hl 2 rfl) ?_
        subst hZ
        exact tz_ret (W.iret (v := x1) hx hb hr (fun t ht hW => ⟨⟨fun v9 hv9 => by cases hv9; exact (Or.inl ⟨x1, tr, sh, rfl, hok, by omega, by omega, by omega, by omega, by rw [ht]; exact hI.1⟩), fun x9 hx9 => (by cases hx9)⟩, hI.2.F ht⟩) hI.2.2.2 d_Mo_showText_94)
      · refine lv_aload_n hx hb d_Mo_showText_25 rfl (lv_at hl 0 rfl) ?_
        refine lv_iload_n hx hb d_Mo_showText_26 rfl (lv_at hl 2 rfl) ?_
        refine tz_call (A1 := ga (adM a) H.size) (tz_runV (C := "StoryMachineModel") (As := [.int x1]) (rest := []) ⟨hx, hb, hml, hown, hts⟩ (c_Mo_wordAt l hfl dC dI cI cJ a H.size th tr dp zi co sh lt ts mf x1 hok) (tx_cb (n := 1) hts rfl rfl ⟨Nat.le_of_ble_eq_true rfl, Nat.le_of_ble_eq_true rfl⟩ (tx_code.of (hts _ mw_1252)) (hts _ mw_12) (by decide +kernel) (hts _ mw_1249)) (hts _ mw_1251) (hts _ ms_Mo_wordAt) ⟨tz_blind, sv_recv (q0 := 0) hts in_Mo hK hI kM_0 rfl, fun U hU hW => ⟨rfl, by rw [hU], by rw [hU]; exact hI.1, va_K.moved hW.alike hK, hst _ _ hI.2 U hU hW⟩⟩ rfl rfl hl.1 rfl (lv_room (Nat.le_of_ble_eq_true rfl)) d_Mo_showText_27 ⟨Nat.le_of_ble_eq_true rfl, Nat.le_of_ble_eq_true rfl⟩) hI.2 (fun q _ h => ga_sub hAC hA0 hI.2 q h) (ga_sub hAC hA0 hI.2) (fun v t H1 locs1 ht hWt hpost _ _ hS => ?_) (fun x t H1 locs1 ht hWt hpost _ _ hS => (hpost.2 x rfl).elim)
        rcases hpost.1 _ rfl with ⟨z289, t_tr290, hv, c291, c291_0, c291_1, c291_2, hI1⟩ | ⟨z292, hv, c293, c293_0, c293_1, c293_2, c293_3, c293_4, hI1⟩
        · cases hv
          have hI : sI (dC, dI) vcl cI cJ (gsM a th t_tr290 dp zi co sh lt ts mf) A s.heap H1 locs1 := ⟨by rw [← ht]; exact hI1, hS⟩
          obtain ⟨-, ⟨o294, o295⟩, -, -, -, -, -, -, -⟩ := id c291
          clear hpost hI1 hS ht hWt
          revert hI; generalize H1 = H; generalize locs1 = locs; intro hI
          refine lv_istore (lv' := [(4, .int z289), (0, .ref (a 0)), (1, .int x1), (2, .int x1), (3, .int v14u_3)]) hx hb d_Mo_showText_30 hl (by decide) rfl (fun ls hl => ?_)
          refine lv_iload_n hx hb d_Mo_showText_32 rfl (lv_at hl 3 rfl) ?_
          refine sn_iconst hx hb d_Mo_showText_33 (by decide) (fun z296 hz296 => ?_)
          refine sn_iaddT hx hb d_Mo_showText_34 (fun z297 hz297a hz297b => ?_)
          refine lv_istore_n (lv' := [(2, .int z297), (4, .int z289), (0, .ref (a 0)), (1, .int x1), (3, .int v14u_3)]) hx hb d_Mo_showText_35 rfl hl (by decide) rfl (fun ls hl => ?_)
          refine lv_iload hx hb d_Mo_showText_36 (lv_at hl 1 rfl) ?_
          refine sn_ldc (n := 32768) hx hb hown (hts _ mw_1402) d_Mo_showText_38 (by decide) (fun z298 hz298 => ?_)
          refine sn_icmp_ge (tgt := 47) hx hb d_Mo_showText_40 (by decide) (fun b299 => ?_) (fun b299 => ?_)
          · refine sn_iconst hx hb d_Mo_showText_47 (by decide) (fun z300 hz300 => ?_)
            refine lv_istore_n (lv' := [(3, .int z300), (2, .int z297), (4, .int z289), (0, .ref (a 0)), (1, .int x1)]) hx hb d_Mo_showText_48 rfl hl (by decide) rfl (fun ls hl => ?_)
            refine lv_aload_n hx hb d_Mo_showText_49 rfl (lv_at hl 3 rfl) ?_
            refine sv_gete (C := "StoryMachineModel") (T := T_Mo) (N := 51) hx hb hts in_Mo hown hK hI 0 kM_0 rfl 25 (by decide) (hts _ mw_1088) rfl d_Mo_showText_50 (fun z301 hz301 => ?_)
            refine sn_if_ne (tgt := 90) hx hb d_Mo_showText_53 (by decide) (fun b302 => ?_) (fun b302 => ?_)
            · exact j90p _ _ _ z297 z300 z289 t_tr290 sh hI c291 (by omega) (by omega) (by omega) (by omega) (by omega) (by omega) (by omega) (by omega) (by omega) (lv_sub hl [3, 4, 1, 0, 2] rfl)
            · omega
          · refine sn_iconst hx hb d_Mo_showText_43 (by decide) (fun z303 hz303 => ?_)
            refine lv_goto (tgt := 48) hx hb d_Mo_showText_44 (by decide) ?_
            refine lv_istore_n (lv' := [(3, .int z303), (2, .int z297), (4, .int z289), (0, .ref (a 0)), (1, .int x1)]) hx hb d_Mo_showText_48 rfl hl (by decide) rfl (fun ls hl => ?_)
            refine lv_aload_n hx hb d_Mo_showText_49 rfl (lv_at hl 3 rfl) ?_
            refine sv_gete (C := "StoryMachineModel") (T := T_Mo) (N := 51) hx hb hts in_Mo hown hK hI 0 kM_0 rfl 25 (by decide) (hts _ mw_1088) rfl d_Mo_showText_50 (fun z304 hz304 => ?_)
            refine sn_if_ne (tgt := 90) hx hb d_Mo_showText_53 (by decide) (fun b305 => ?_) (fun b305 => ?_)
            · exact j90p _ _ _ z297 z303 z289 t_tr290 sh hI c291 (by omega) (by omega) (by omega) (by omega) (by omega) (by omega) (by omega) (by omega) (by omega) (lv_sub hl [3, 4, 1, 0, 2] rfl)
            · omega
        · cases hv
          have hI : sI (dC, dI) vcl cI cJ (gsM a th tr dp zi co sh lt ts mf) A s.heap H1 locs1 := ⟨by rw [← ht]; exact hI1, hS⟩
          clear hpost hI1 hS ht hWt
          revert hI; generalize H1 = H; generalize locs1 = locs; intro hI
          refine lv_istore (lv' := [(4, .int z292), (0, .ref (a 0)), (1, .int x1), (2, .int x1), (3, .int v14u_3)]) hx hb d_Mo_showText_30 hl (by decide) rfl (fun ls hl => ?_)
          refine lv_iload_n hx hb d_Mo_showText_32 rfl (lv_at hl 3 rfl) ?_
          refine sn_iconst hx hb d_Mo_showText_33 (by decide) (fun z306 hz306 => ?_)
          refine sn_iadd hx hb d_Mo_showText_34 (by omega) (by omega) (fun z307 hz307 => ?_)
          refine lv_istore_n (lv' := [(2, .int z307), (4, .int z292), (0, .ref (a 0)), (1, .int x1), (3, .int v14u_3)]) hx hb d_Mo_showText_35 rfl hl (by decide) rfl (fun ls hl => ?_)
          refine lv_iload hx hb d_Mo_showText_36 (lv_at hl 1 rfl) ?_
          refine sn_ldc (n := 32768) hx hb hown (hts _ mw_1402) d_Mo_showText_38 (by decide) (fun z308 hz308 => ?_)
          refine sn_icmp_ge (tgt := 47) hx hb d_Mo_showText_40 (by decide) (fun b309 => ?_) (fun b309 => ?_)
          · refine sn_iconst hx hb d_Mo_showText_47 (by decide) (fun z310 hz310 => ?_)
            refine lv_istore_n (lv' := [(3, .int z310), (2, .int z307), (4, .int z292), (0, .ref (a 0)), (1, .int x1)]) hx hb d_Mo_showText_48 rfl hl (by decide) rfl (fun ls hl => ?_)
            refine lv_aload_n hx hb d_Mo_showText_49 rfl (lv_at hl 3 rfl) ?_
            refine sv_gete (C := "StoryMachineModel") (T := T_Mo) (N := 51) hx hb hts in_Mo hown hK hI 0 kM_0 rfl 25 (by decide) (hts _ mw_1088) rfl d_Mo_showText_50 (fun z311 hz311 => ?_)
            refine sn_if_ne (tgt := 90) hx hb d_Mo_showText_53 (by decide) (fun b312 => ?_) (fun b312 => ?_)
            · omega
            · refine lv_aload_n hx hb d_Mo_showText_56 rfl (lv_at hl 3 rfl) ?_
              refine lv_iload hx hb d_Mo_showText_57 (lv_at hl 2 rfl) ?_
              refine sn_sipush hx hb d_Mo_showText_59 (by decide) (fun z313 hz313 => ?_)
              refine sn_idiv (k := 1024) hx hb d_Mo_showText_62 (by omega) (by omega) (by omega) (fun z314 hz314 => ?_)
              refine sn_bipush hx hb d_Mo_showText_63 (by decide) (fun z315 hz315 => ?_)
              refine sn_irem (k := 32) hx hb d_Mo_showText_65 (by omega) (by omega) (by omega) (fun z316 hz316 => ?_)
              refine tz_call (A1 := ga (adM a) H.size) (tz_runV (C := "StoryMachineModel") (As := [.int z316]) (rest := []) ⟨hx, hb, hml, hown, hts⟩ (c_Mo_letter l hfl dC dI cI cJ a H.size th tr dp zi co sh lt ts mf z316 c293 (by omega) (by omega) (by omega)) (tx_cb (n := 1) hts rfl rfl ⟨Nat.le_of_ble_eq_true rfl, Nat.le_of_ble_eq_true rfl⟩ (tx_code.of (hts _ mw_1406)) (hts _ mw_12) (by decide +kernel) (hts _ mw_1403)) (hts _ mw_1405) (hts _ ms_Mo_letter) ⟨tz_blind, sv_recv (q0 := 0) hts in_Mo hK hI kM_0 rfl, fun U hU hW => ⟨rfl, by rw [hU], by rw [hU]; exact hI.1, va_K.moved hW.alike hK, hst _ _ hI.2 U hU hW⟩⟩ rfl rfl hl.1 rfl (lv_room (Nat.le_of_ble_eq_true rfl)) d_Mo_showText_66 ⟨Nat.le_of_ble_eq_true rfl, Nat.le_of_ble_eq_true rfl⟩) hI.2 (fun q _ h => ga_sub hAC hA0 hI.2 q h) (ga_sub hAC hA0 hI.2) (fun v t H1 locs1 ht hWt hpost _ _ hS => ?_) (fun x t H1 locs1 ht hWt hpost _ _ hS => (hpost.2 x rfl).elim)
              rcases hpost.1 _ rfl with ⟨hv, c317, c317_0, hI1⟩ | ⟨hv, c318, hI1⟩ | ⟨t_sh319, hv, c320, c320_0, c320_1, c320_2, hI1⟩
              · omega
              · cases hv
                have hI : sI (dC, dI) vcl cI cJ (gsM a th tr dp zi co sh lt ts mf) A s.heap H1 locs1 := ⟨by rw [← ht]; exact hI1, hS⟩
                clear hpost hI1 hS ht hWt
                revert hI; generalize H1 = H; generalize locs1 = locs; intro hI
                refine lv_aload_n hx hb d_Mo_showText_69 rfl (lv_at hl 3 rfl) ?_
                refine lv_iload hx hb d_Mo_showText_70 (lv_at hl 2 rfl) ?_
                refine sn_bipush hx hb d_Mo_showText_72 (by decide) (fun z321 hz321 => ?_)
                refine sn_idiv (k := 32) hx hb d_Mo_showText_74 (by omega) (by omega) (by omega) (fun z322 hz322 => ?_)
                refine sn_bipush hx hb d_Mo_showText_75 (by decide) (fun z323 hz323 => ?_)
                refine sn_irem (k := 32) hx hb d_Mo_showText_77 (by omega) (by omega) (by omega) (fun z324 hz324 => ?_)
                refine tz_call (A1 := ga (adM a) H.size) (tz_runV (C := "StoryMachineModel") (As := [.int z324]) (rest := []) ⟨hx, hb, hml, hown, hts⟩ (c_Mo_letter l hfl dC dI cI cJ a H.size th tr dp zi co sh lt ts mf z324 c318 (by omega) (by omega) (by omega)) (tx_cb (n := 1) hts rfl rfl ⟨Nat.le_of_ble_eq_true rfl, Nat.le_of_ble_eq_true rfl⟩ (tx_code.of (hts _ mw_1406)) (hts _ mw_12) (by decide +kernel) (hts _ mw_1403)) (hts _ mw_1405) (hts _ ms_Mo_letter) ⟨tz_blind, sv_recv (q0 := 0) hts in_Mo hK hI kM_0 rfl, fun U hU hW => ⟨rfl, by rw [hU], by rw [hU]; exact hI.1, va_K.moved hW.alike hK, hst _ _ hI.2 U hU hW⟩⟩ rfl rfl hl.1 rfl (lv_room (Nat.le_of_ble_eq_true rfl)) d_Mo_showText_78 ⟨Nat.le_of_ble_eq_true rfl, Nat.le_of_ble_eq_true rfl⟩) hI.2 (fun q _ h => ga_sub hAC hA0 hI.2 q h) (ga_sub hAC hA0 hI.2) (fun v t H1 locs1 ht hWt hpost _ _ hS => ?_) (fun x t H1 locs1 ht hWt hpost _ _ hS => (hpost.2 x rfl).elim)
                rcases hpost.1 _ rfl with ⟨hv, c325, c325_0, hI1⟩ | ⟨hv, c326, hI1⟩ | ⟨t_sh327, hv, c328, c328_0, c328_1, c328_2, hI1⟩
                · omega
                · cases hv
                  have hI : sI (dC, dI) vcl cI cJ (gsM a th tr dp zi co sh lt ts mf) A s.heap H1 locs1 := ⟨by rw [← ht]; exact hI1, hS⟩
                  clear hpost hI1 hS ht hWt
                  revert hI; generalize H1 = H; generalize locs1 = locs; intro hI
                  refine lv_aload_n hx hb d_Mo_showText_81 rfl (lv_at hl 3 rfl) ?_
                  refine lv_iload hx hb d_Mo_showText_82 (lv_at hl 2 rfl) ?_
                  refine sn_bipush hx hb d_Mo_showText_84 (by decide) (fun z329 hz329 => ?_)
                  refine sn_irem (k := 32) hx hb d_Mo_showText_86 (by omega) (by omega) (by omega) (fun z330 hz330 => ?_)
                  refine tz_call (A1 := ga (adM a) H.size) (tz_runV (C := "StoryMachineModel") (As := [.int z330]) (rest := []) ⟨hx, hb, hml, hown, hts⟩ (c_Mo_letter l hfl dC dI cI cJ a H.size th tr dp zi co sh lt ts mf z330 c326 (by omega) (by omega) (by omega)) (tx_cb (n := 1) hts rfl rfl ⟨Nat.le_of_ble_eq_true rfl, Nat.le_of_ble_eq_true rfl⟩ (tx_code.of (hts _ mw_1406)) (hts _ mw_12) (by decide +kernel) (hts _ mw_1403)) (hts _ mw_1405) (hts _ ms_Mo_letter) ⟨tz_blind, sv_recv (q0 := 0) hts in_Mo hK hI kM_0 rfl, fun U hU hW => ⟨rfl, by rw [hU], by rw [hU]; exact hI.1, va_K.moved hW.alike hK, hst _ _ hI.2 U hU hW⟩⟩ rfl rfl hl.1 rfl (lv_room (Nat.le_of_ble_eq_true rfl)) d_Mo_showText_87 ⟨Nat.le_of_ble_eq_true rfl, Nat.le_of_ble_eq_true rfl⟩) hI.2 (fun q _ h => ga_sub hAC hA0 hI.2 q h) (ga_sub hAC hA0 hI.2) (fun v t H1 locs1 ht hWt hpost _ _ hS => ?_) (fun x t H1 locs1 ht hWt hpost _ _ hS => (hpost.2 x rfl).elim)
                  rcases hpost.1 _ rfl with ⟨hv, c331, c331_0, hI1⟩ | ⟨hv, c332, hI1⟩ | ⟨t_sh333, hv, c334, c334_0, c334_1, c334_2, hI1⟩
                  · omega
                  · cases hv
                    have hI : sI (dC, dI) vcl cI cJ (gsM a th tr dp zi co sh lt ts mf) A s.heap H1 locs1 := ⟨by rw [← ht]; exact hI1, hS⟩
                    clear hpost hI1 hS ht hWt
                    revert hI; generalize H1 = H; generalize locs1 = locs; intro hI
                    exact j90z _ _ _ z307 z310 z292 sh hI c332 (by omega) (by omega) (by omega) (by omega) (by omega) (by omega) (by omega) (by omega) (by omega) (lv_sub hl [3, 4, 1, 0, 2] rfl)
                  · cases hv
                    have hI : sI (dC, dI) vcl cI cJ (gsM a th tr dp zi co t_sh333 lt ts mf) A s.heap H1 locs1 := ⟨by rw [← ht]; exact hI1, hS⟩
                    obtain ⟨-, -, -, -, -, ⟨o335, o336⟩, -, -, -⟩ := id c334
                    clear hpost hI1 hS ht hWt
                    revert hI; generalize H1 = H; generalize locs1 = locs; intro hI
                    exact j90z _ _ _ z307 z310 z292 t_sh333 hI c334 (by omega) (by omega) (by omega) (by omega) (by omega) (by omega) (by omega) (by omega) (by omega) (lv_sub hl [3, 4, 1, 0, 2] rfl)
                · cases hv
                  have hI : sI (dC, dI) vcl cI cJ (gsM a th tr dp zi co t_sh327 lt ts mf) A s.heap H1 locs1 := ⟨by rw [← ht]; exact hI1, hS⟩
                  obtain ⟨-, -, -, -, -, ⟨o337, o338⟩, -, -, -⟩ := id c328
                  clear hpost hI1 hS ht hWt
                  revert hI; generalize H1 = H; generalize locs1 = locs; intro hI
                  refine lv_aload_n hx hb d_Mo_showText_81 rfl (lv_at hl 3 rfl) ?_
                  refine lv_iload hx hb d_Mo_showText_82 (lv_at hl 2 rfl) ?_
                  refine sn_bipush hx hb d_Mo_showText_84 (by decide) (fun z339 hz339 => ?_)
                  refine sn_irem (k := 32) hx hb d_Mo_showText_86 (by omega) (by omega) (by omega) (fun z340 hz340 => ?_)
                  refine tz_call (A1 := ga (adM a) H.size) (tz_runV (C := "StoryMachineModel") (As := [.int z340]) (rest := []) ⟨hx, hb, hml, hown, hts⟩ (c_Mo_letter l hfl dC dI cI cJ a H.size th tr dp zi co t_sh327 lt ts mf z340 c328 (by omega) (by omega) (by omega)) (tx_cb (n := 1) hts rfl rfl ⟨Nat.le_of_ble_eq_true rfl, Nat.le_of_ble_eq_true rfl⟩ (tx_code.of (hts _ mw_1406)) (hts _ mw_12) (by decide +kernel) (hts _ mw_1403)) (hts _ mw_1405) (hts _ ms_Mo_letter) ⟨tz_blind, sv_recv (q0 := 0) hts in_Mo hK hI kM_0 rfl, fun U hU hW => ⟨rfl, by rw [hU], by rw [hU]; exact hI.1, va_K.moved hW.alike hK, hst _ _ hI.2 U hU hW⟩⟩ rfl rfl hl.1 rfl (lv_room (Nat.le_of_ble_eq_true rfl)) d_Mo_showText_87 ⟨Nat.le_of_ble_eq_true rfl, Nat.le_of_ble_eq_true rfl⟩) hI.2 (fun q _ h => ga_sub hAC hA0 hI.2 q h) (ga_sub hAC hA0 hI.2) (fun v t H1 locs1 ht hWt hpost _ _ hS => ?_) (fun x t H1 locs1 ht hWt hpost _ _ hS => (hpost.2 x rfl).elim)
                  rcases hpost.1 _ rfl with ⟨hv, c341, c341_0, hI1⟩ | ⟨hv, c342, hI1⟩ | ⟨t_sh343, hv, c344, c344_0, c344_1, c344_2, hI1⟩
                  · omega
                  · cases hv
                    have hI : sI (dC, dI) vcl cI cJ (gsM a th tr dp zi co t_sh327 lt ts mf) A s.heap H1 locs1 := ⟨by rw [← ht]; exact hI1, hS⟩
                    clear hpost hI1 hS ht hWt
                    revert hI; generalize H1 = H; generalize locs1 = locs; intro hI
                    exact j90z _ _ _ z307 z310 z292 t_sh327 hI c342 (by omega) (by omega) (by omega) (by omega) (by omega) (by omega) (by omega) (by omega) (by omega) (lv_sub hl [3, 4, 1, 0, 2] rfl)
                  · cases hv
                    have hI : sI (dC, dI) vcl cI cJ (gsM a th tr dp zi co t_sh343 lt ts mf) A s.heap H1 locs1 := ⟨by rw [← ht]; exact hI1, hS⟩
                    obtain ⟨-, -, -, -, -, ⟨o345, o346⟩, -, -, -⟩ := id c344
                    clear hpost hI1 hS ht hWt
                    revert hI; generalize H1 = H; generalize locs1 = locs; intro hI
                    exact j90z _ _ _ z307 z310 z292 t_sh343 hI c344 (by omega) (by omega) (by omega) (by omega) (by omega) (by omega) (by omega) (by omega) (by omega) (lv_sub hl [3, 4, 1, 0, 2] rfl)
              · cases hv
                have hI : sI (dC, dI) vcl cI cJ (gsM a th tr dp zi co t_sh319 lt ts mf) A s.heap H1 locs1 := ⟨by rw [← ht]; exact hI1, hS⟩
                obtain ⟨-, -, -, -, -, ⟨o347, o348⟩, -, -, -⟩ := id c320
                clear hpost hI1 hS ht hWt
                revert hI; generalize H1 = H; generalize locs1 = locs; intro hI
                refine lv_aload_n hx hb d_Mo_showText_69 rfl (lv_at hl 3 rfl) ?_
                refine lv_iload hx hb d_Mo_showText_70 (lv_at hl 2 rfl) ?_
                refine sn_bipush hx hb d_Mo_showText_72 (by decide) (fun z349 hz349 => ?_)
                refine sn_idiv (k := 32) hx hb d_Mo_showText_74 (by omega) (by omega) (by omega) (fun z350 hz350 => ?_)
                refine sn_bipush hx hb d_Mo_showText_75 (by decide) (fun z351 hz351 => ?_)
                refine sn_irem (k := 32) hx hb d_Mo_showText_77 (by omega) (by omega) (by omega) (fun z352 hz352 => ?_)
                refine tz_call (A1 := ga (adM a) H.size) (tz_runV (C := "StoryMachineModel") (As := [.int z352]) (rest := []) ⟨hx, hb, hml, hown, hts⟩ (c_Mo_letter l hfl dC dI cI cJ a H.size th tr dp zi co t_sh319 lt ts mf z352 c320 (by omega) (by omega) (by omega)) (tx_cb (n := 1) hts rfl rfl ⟨Nat.le_of_ble_eq_true rfl, Nat.le_of_ble_eq_true rfl⟩ (tx_code.of (hts _ mw_1406)) (hts _ mw_12) (by decide +kernel) (hts _ mw_1403)) (hts _ mw_1405) (hts _ ms_Mo_letter) ⟨tz_blind, sv_recv (q0 := 0) hts in_Mo hK hI kM_0 rfl, fun U hU hW => ⟨rfl, by rw [hU], by rw [hU]; exact hI.1, va_K.moved hW.alike hK, hst _ _ hI.2 U hU hW⟩⟩ rfl rfl hl.1 rfl (lv_room (Nat.le_of_ble_eq_true rfl)) d_Mo_showText_78 ⟨Nat.le_of_ble_eq_true rfl, Nat.le_of_ble_eq_true rfl⟩) hI.2 (fun q _ h => ga_sub hAC hA0 hI.2 q h) (ga_sub hAC hA0 hI.2) (fun v t H1 locs1 ht hWt hpost _ _ hS => ?_) (fun x t H1 locs1 ht hWt hpost _ _ hS => (hpost.2 x rfl).elim)
                rcases hpost.1 _ rfl with ⟨hv, c353, c353_0, hI1⟩ | ⟨hv, c354, hI1⟩ | ⟨t_sh355, hv, c356, c356_0, c356_1, c356_2, hI1⟩
                · omega
                · cases hv
                  have hI : sI (dC, dI) vcl cI cJ (gsM a th tr dp zi co t_sh319 lt ts mf) A s.heap H1 locs1 := ⟨by rw [← ht]; exact hI1, hS⟩
                  clear hpost hI1 hS ht hWt
                  revert hI; generalize H1 = H; generalize locs1 = locs; intro hI
                  refine lv_aload_n hx hb d_Mo_showText_81 rfl (lv_at hl 3 rfl) ?_
                  refine lv_iload hx hb d_Mo_showText_82 (lv_at hl 2 rfl) ?_
                  refine sn_bipush hx hb d_Mo_showText_84 (by decide) (fun z357 hz357 => ?_)
                  refine sn_irem (k := 32) hx hb d_Mo_showText_86 (by omega) (by omega) (by omega) (fun z358 hz358 => ?_)
                  refine tz_call (A1 := ga (adM a) H.size) (tz_runV (C := "StoryMachineModel") (As := [.int z358]) (rest := []) ⟨hx, hb, hml, hown, hts⟩ (c_Mo_letter l hfl dC dI cI cJ a H.size th tr dp zi co t_sh319 lt ts mf z358 c354 (by omega) (by omega) (by omega)) (tx_cb (n := 1) hts rfl rfl ⟨Nat.le_of_ble_eq_true rfl, Nat.le_of_ble_eq_true rfl⟩ (tx_code.of (hts _ mw_1406)) (hts _ mw_12) (by decide +kernel) (hts _ mw_1403)) (hts _ mw_1405) (hts _ ms_Mo_letter) ⟨tz_blind, sv_recv (q0 := 0) hts in_Mo hK hI kM_0 rfl, fun U hU hW => ⟨rfl, by rw [hU], by rw [hU]; exact hI.1, va_K.moved hW.alike hK, hst _ _ hI.2 U hU hW⟩⟩ rfl rfl hl.1 rfl (lv_room (Nat.le_of_ble_eq_true rfl)) d_Mo_showText_87 ⟨Nat.le_of_ble_eq_true rfl, Nat.le_of_ble_eq_true rfl⟩) hI.2 (fun q _ h => ga_sub hAC hA0 hI.2 q h) (ga_sub hAC hA0 hI.2) (fun v t H1 locs1 ht hWt hpost _ _ hS => ?_) (fun x t H1 locs1 ht hWt hpost _ _ hS => (hpost.2 x rfl).elim)
                  rcases hpost.1 _ rfl with ⟨hv, c359, c359_0, hI1⟩ | ⟨hv, c360, hI1⟩ | ⟨t_sh361, hv, c362, c362_0, c362_1, c362_2, hI1⟩
                  · omega
                  · cases hv
                    have hI : sI (dC, dI) vcl cI cJ (gsM a th tr dp zi co t_sh319 lt ts mf) A s.heap H1 locs1 := ⟨by rw [← ht]; exact hI1, hS⟩
                    clear hpost hI1 hS ht hWt
                    revert hI; generalize H1 = H; generalize locs1 = locs; intro hI
                    exact j90z _ _ _ z307 z310 z292 t_sh319 hI c360 (by omega) (by omega) (by omega) (by omega) (by omega) (by omega) (by omega) (by omega) (by omega) (lv_sub hl [3, 4, 1, 0, 2] rfl)
                  · cases hv
                    have hI : sI (dC, dI) vcl cI cJ (gsM a th tr dp zi co t_sh361 lt ts mf) A s.heap H1 locs1 := ⟨by rw [← ht]; exact hI1, hS⟩
                    obtain ⟨-, -, -, -, -, ⟨o363, o364⟩, -, -, -⟩ := id c362
                    clear hpost hI1 hS ht hWt
                    revert hI; generalize H1 = H; generalize locs1 = locs; intro hI
                    exact j90z _ _ _ z307 z310 z292 t_sh361 hI c362 (by omega) (by omega) (by omega) (by omega) (by omega) (by omega) (by omega) (by omega) (by omega) (lv_sub hl [3, 4, 1, 0, 2] rfl)
                · cases hv
                  have hI : sI (dC, dI) vcl cI cJ (gsM a th tr dp zi co t_sh355 lt ts mf) A s.heap H1 locs1 := ⟨by rw [← ht]; exact hI1, hS⟩
                  obtain ⟨-, -, -, -, -, ⟨o365, o366⟩, -, -, -⟩ := id c356
                  clear hpost hI1 hS ht hWt
                  revert hI; generalize H1 = H; generalize locs1 = locs; intro hI
                  refine lv_aload_n hx hb d_Mo_showText_81 rfl (lv_at hl 3 rfl) ?_
                  refine lv_iload hx hb d_Mo_showText_82 (lv_at hl 2 rfl) ?_
                  refine sn_bipush hx hb d_Mo_showText_84 (by decide) (fun z367 hz367 => ?_)
                  refine sn_irem (k := 32) hx hb d_Mo_showText_86 (by omega) (by omega) (by omega) (fun z368 hz368 => ?_)
                  refine tz_call (A1 := ga (adM a) H.size) (tz_runV (C := "StoryMachineModel") (As := [.int z368]) (rest := []) ⟨hx, hb, hml, hown, hts⟩ (c_Mo_letter l hfl dC dI cI cJ a H.size th tr dp zi co t_sh355 lt ts mf z368 c356 (by omega) (by omega) (by omega)) (tx_cb (n := 1) hts rfl rfl ⟨Nat.le_of_ble_eq_true rfl, Nat.le_of_ble_eq_true rfl⟩ (tx_code.of (hts _ mw_1406)) (hts _ mw_12) (by decide +kernel) (hts _ mw_1403)) (hts _ mw_1405) (hts _ ms_Mo_letter) ⟨tz_blind, sv_recv (q0 := 0) hts in_Mo hK hI kM_0 rfl, fun U hU hW => ⟨rfl, by rw [hU], by rw [hU]; exact hI.1, va_K.moved hW.alike hK, hst _ _ hI.2 U hU hW⟩⟩ rfl rfl hl.1 rfl (lv_room (Nat.le_of_ble_eq_true rfl)) d_Mo_showText_87 ⟨Nat.le_of_ble_eq_true rfl, Nat.le_of_ble_eq_true rfl⟩) hI.2 (fun q _ h => ga_sub hAC hA0 hI.2 q h) (ga_sub hAC hA0 hI.2) (fun v t H1 locs1 ht hWt hpost _ _ hS => ?_) (fun x t H1 locs1 ht hWt hpost _ _ hS => (hpost.2 x rfl).elim)
                  rcases hpost.1 _ rfl with ⟨hv, c369, c369_0, hI1⟩ | ⟨hv, c370, hI1⟩ | ⟨t_sh371, hv, c372, c372_0, c372_1, c372_2, hI1⟩
                  · omega
                  · cases hv
                    have hI : sI (dC, dI) vcl cI cJ (gsM a th tr dp zi co t_sh355 lt ts mf) A s.heap H1 locs1 := ⟨by rw [← ht]; exact hI1, hS⟩
                    clear hpost hI1 hS ht hWt
                    revert hI; generalize H1 = H; generalize locs1 = locs; intro hI
                    exact j90z _ _ _ z307 z310 z292 t_sh355 hI c370 (by omega) (by omega) (by omega) (by omega) (by omega) (by omega) (by omega) (by omega) (by omega) (lv_sub hl [3, 4, 1, 0, 2] rfl)
                  · cases hv
                    have hI : sI (dC, dI) vcl cI cJ (gsM a th tr dp zi co t_sh371 lt ts mf) A s.heap H1 locs1 := ⟨by rw [← ht]; exact hI1, hS⟩
                    obtain ⟨-, -, -, -, -, ⟨o373, o374⟩, -, -, -⟩ := id c372
                    clear hpost hI1 hS ht hWt
                    revert hI; generalize H1 = H; generalize locs1 = locs; intro hI
                    exact j90z _ _ _ z307 z310 z292 t_sh371 hI c372 (by omega) (by omega) (by omega) (by omega) (by omega) (by omega) (by omega) (by omega) (by omega) (lv_sub hl [3, 4, 1, 0, 2] rfl)
          · refine sn_iconst hx hb d_Mo_showText_43 (by decide) (fun z375 hz375 => ?_)
            refine lv_goto (tgt := 48) hx hb d_Mo_showText_44 (by decide) ?_
            refine lv_istore_n (lv' := [(3, .int z375), (2, .int z307), (4, .int z292), (0, .ref (a 0)), (1, .int x1)]) hx hb d_Mo_showText_48 rfl hl (by decide) rfl (fun ls hl => ?_)
            refine lv_aload_n hx hb d_Mo_showText_49 rfl (lv_at hl 3 rfl) ?_
            refine sv_gete (C := "StoryMachineModel") (T := T_Mo) (N := 51) hx hb hts in_Mo hown hK hI 0 kM_0 rfl 25 (by decide) (hts _ mw_1088) rfl d_Mo_showText_50 (fun z376 hz376 => ?_)
            refine sn_if_ne (tgt := 90) hx hb d_Mo_showText_53 (by decide) (fun b377 => ?_) (fun b377 => ?_)
            · omega
            · refine lv_aload_n hx hb d_Mo_showText_56 rfl (lv_at hl 3 rfl) ?_
              refine lv_iload hx hb d_Mo_showText_57 (lv_at hl 2 rfl) ?_
              refine sn_sipush hx hb d_Mo_showText_59 (by decide) (fun z378 hz378 => ?_)
              refine sn_idiv (k := 1024) hx hb d_Mo_showText_62 (by omega) (by omega) (by omega) (fun z379 hz379 => ?_)
              refine sn_bipush hx hb d_Mo_showText_63 (by decide) (fun z380 hz380 => ?_)
              refine sn_irem (k := 32) hx hb d_Mo_showText_65 (by omega) (by omega) (by omega) (fun z381 hz381 => ?_)
              refine tz_call (A1 := ga (adM a) H.size) (tz_runV (C := "StoryMachineModel") (As := [.int z381]) (rest := []) ⟨hx, hb, hml, hown, hts⟩ (c_Mo_letter l hfl dC dI cI cJ a H.size th tr dp zi co sh lt ts mf z381 c293 (by omega) (by omega) (by omega)) (tx_cb (n := 1) hts rfl rfl ⟨Nat.le_of_ble_eq_true rfl, Nat.le_of_ble_eq_true rfl⟩ (tx_code.of (hts _ mw_1406)) (hts _ mw_12) (by decide +kernel) (hts _ mw_1403)) (hts _ mw_1405) (hts _ ms_Mo_letter) ⟨tz_blind, sv_recv (q0 := 0) hts in_Mo hK hI kM_0 rfl, fun U hU hW => ⟨rfl, by rw [hU], by rw [hU]; exact hI.1, va_K.moved hW.alike hK, hst _ _ hI.2 U hU hW⟩⟩ rfl rfl hl.1 rfl (lv_room (Nat.le_of_ble_eq_true rfl)) d_Mo_showText_66 ⟨Nat.le_of_ble_eq_true rfl, Nat.le_of_ble_eq_true rfl⟩) hI.2 (fun q _ h => ga_sub hAC hA0 hI.2 q h) (ga_sub hAC hA0 hI.2) (fun v t H1 locs1 ht hWt hpost _ _ hS => ?_) (fun x t H1 locs1 ht hWt hpost _ _ hS => (hpost.2 x rfl).elim)
              rcases hpost.1 _ rfl with ⟨hv, c382, c382_0, hI1⟩ | ⟨hv, c383, hI1⟩ | ⟨t_sh384, hv, c385, c385_0, c385_1, c385_2, hI1⟩
              · omega
              · cases hv
                have hI : sI (dC, dI) vcl cI cJ (gsM a th tr dp zi co sh lt ts mf) A s.heap H1 locs1 := ⟨by rw [← ht]; exact hI1, hS⟩
                clear hpost hI1 hS ht hWt
                revert hI; generalize H1 = H; generalize locs1 = locs; intro hI
                refine lv_aload_n hx hb d_Mo_showText_69 rfl (lv_at hl 3 rfl) ?_
                refine lv_iload hx hb d_Mo_showText_70 (lv_at hl 2 rfl) ?_
                refine sn_bipush hx hb d_Mo_showText_72 (by decide) (fun z386 hz386 => ?_)
                refine sn_idiv (k := 32) hx hb d_Mo_showText_74 (by omega) (by omega) (by omega) (fun z387 hz387 => ?_)
                refine sn_bipush hx hb d_Mo_showText_75 (by decide) (fun z388 hz388 => ?_)
                refine sn_irem (k := 32) hx hb d_Mo_showText_77 (by omega) (by omega) (by omega) (fun z389 hz389 => ?_)
                refine tz_call (A1 := ga (adM a) H.size) (tz_runV (C := "StoryMachineModel") (As := [.int z389]) (rest := []) ⟨hx, hb, hml, hown, hts⟩ (c_Mo_letter l hfl dC dI cI cJ a H.size th tr dp zi co sh lt ts mf z389 c383 (by omega) (by omega) (by omega)) (tx_cb (n := 1) hts rfl rfl ⟨Nat.le_of_ble_eq_true rfl, Nat.le_of_ble_eq_true rfl⟩ (tx_code.of (hts _ mw_1406)) (hts _ mw_12) (by decide +kernel) (hts _ mw_1403)) (hts _ mw_1405) (hts _ ms_Mo_letter) ⟨tz_blind, sv_recv (q0 := 0) hts in_Mo hK hI kM_0 rfl, fun U hU hW => ⟨rfl, by rw [hU], by rw [hU]; exact hI.1, va_K.moved hW.alike hK, hst _ _ hI.2 U hU hW⟩⟩ rfl rfl hl.1 rfl (lv_room (Nat.le_of_ble_eq_true rfl)) d_Mo_showText_78 ⟨Nat.le_of_ble_eq_true rfl, Nat.le_of_ble_eq_true rfl⟩) hI.2 (fun q _ h => ga_sub hAC hA0 hI.2 q h) (ga_sub hAC hA0 hI.2) (fun v t H1 locs1 ht hWt hpost _ _ hS => ?_) (fun x t H1 locs1 ht hWt hpost _ _ hS => (hpost.2 x rfl).elim)
                rcases hpost.1 _ rfl with ⟨hv, c390, c390_0, hI1⟩ | ⟨hv, c391, hI1⟩ | ⟨t_sh392, hv, c393, c393_0, c393_1, c393_2, hI1⟩
                · omega
                · cases hv
                  have hI : sI (dC, dI) vcl cI cJ (gsM a th tr dp zi co sh lt ts mf) A s.heap H1 locs1 := ⟨by rw [← ht]; exact hI1, hS⟩
                  clear hpost hI1 hS ht hWt
                  revert hI; generalize H1 = H; generalize locs1 = locs; intro hI
                  refine lv_aload_n hx hb d_Mo_showText_81 rfl (lv_at hl 3 rfl) ?_
                  refine lv_iload hx hb d_Mo_showText_82 (lv_at hl 2 rfl) ?_
                  refine sn_bipush hx hb d_Mo_showText_84 (by decide) (fun z394 hz394 => ?_)
                  refine sn_irem (k := 32) hx hb d_Mo_showText_86 (by omega) (by omega) (by omega) (fun z395 hz395 => ?_)
                  refine tz_call (A1 := ga (adM a) H.size) (tz_runV (C := "StoryMachineModel") (As := [.int z395]) (rest := []) ⟨hx, hb, hml, hown, hts⟩ (c_Mo_letter l hfl dC dI cI cJ a H.size th tr dp zi co sh lt ts mf z395 c391 (by omega) (by omega) (by omega)) (tx_cb (n := 1) hts rfl rfl ⟨Nat.le_of_ble_eq_true rfl, Nat.le_of_ble_eq_true rfl⟩ (tx_code.of (hts _ mw_1406)) (hts _ mw_12) (by decide +kernel) (hts _ mw_1403)) (hts _ mw_1405) (hts _ ms_Mo_letter) ⟨tz_blind, sv_recv (q0 := 0) hts in_Mo hK hI kM_0 rfl, fun U hU hW => ⟨rfl, by rw [hU], by rw [hU]; exact hI.1, va_K.moved hW.alike hK, hst _ _ hI.2 U hU hW⟩⟩ rfl rfl hl.1 rfl (lv_room (Nat.le_of_ble_eq_true rfl)) d_Mo_showText_87 ⟨Nat.le_of_ble_eq_true rfl, Nat.le_of_ble_eq_true rfl⟩) hI.2 (fun q _ h => ga_sub hAC hA0 hI.2 q h) (ga_sub hAC hA0 hI.2) (fun v t H1 locs1 ht hWt hpost _ _ hS => ?_) (fun x t H1 locs1 ht hWt hpost _ _ hS => (hpost.2 x rfl).elim)
                  rcases hpost.1 _ rfl with ⟨hv, c396, c396_0, hI1⟩ | ⟨hv, c397, hI1⟩ | ⟨t_sh398, hv, c399, c399_0, c399_1, c399_2, hI1⟩
                  · omega
                  · cases hv
                    have hI : sI (dC, dI) vcl cI cJ (gsM a th tr dp zi co sh lt ts mf) A s.heap H1 locs1 := ⟨by rw [← ht]; exact hI1, hS⟩
                    clear hpost hI1 hS ht hWt
                    revert hI; generalize H1 = H; generalize locs1 = locs; intro hI
                    exact j90z _ _ _ z307 z375 z292 sh hI c397 (by omega) (by omega) (by omega) (by omega) (by omega) (by omega) (by omega) (by omega) (by omega) (lv_sub hl [3, 4, 1, 0, 2] rfl)
                  · cases hv
                    have hI : sI (dC, dI) vcl cI cJ (gsM a th tr dp zi co t_sh398 lt ts mf) A s.heap H1 locs1 := ⟨by rw [← ht]; exact hI1, hS⟩
                    obtain ⟨-, -, -, -, -, ⟨o400, o401⟩, -, -, -⟩ := id c399
                    clear hpost hI1 hS ht hWt
                    revert hI; generalize H1 = H; generalize locs1 = locs; intro hI
                    exact j90z _ _ _ z307 z375 z292 t_sh398 hI c399 (by omega) (by omega) (by omega) (by omega) (by omega) (by omega) (by omega) (by omega) (by omega) (lv_sub hl [3, 4, 1, 0, 2] rfl)
                · cases hv
                  have hI : sI (dC, dI) vcl cI cJ (gsM a th tr dp zi co t_sh392 lt ts mf) A s.heap H1 locs1 := ⟨by rw [← ht]; exact hI1, hS⟩
                  obtain ⟨-, -, -, -, -, ⟨o402, o403⟩, -, -, -⟩ := id c393
                  clear hpost hI1 hS ht hWt
                  revert hI; generalize H1 = H; generalize locs1 = locs; intro hI
                  refine lv_aload_n hx hb d_Mo_showText_81 rfl (lv_at hl 3 rfl) ?_
                  refine lv_iload hx hb d_Mo_showText_82 (lv_at hl 2 rfl) ?_
                  refine sn_bipush hx hb d_Mo_showText_84 (by decide) (fun z404 hz404 => ?_)
                  refine sn_irem (k := 32) hx hb d_Mo_showText_86 (by omega) (by omega) (by omega) (fun z405 hz405 => ?_)
                  refine tz_call (A1 := ga (adM a) H.size) (tz_runV (C := "StoryMachineModel") (As := [.int z405]) (rest := []) ⟨hx, hb, hml, hown, hts⟩ (c_Mo_letter l hfl dC dI cI cJ a H.size th tr dp zi co t_sh392 lt ts mf z405 c393 (by omega) (by omega) (by omega)) (tx_cb (n := 1) hts rfl rfl ⟨Nat.le_of_ble_eq_true rfl, Nat.le_of_ble_eq_true rfl⟩ (tx_code.of (hts _ mw_1406)) (hts _ mw_12) (by decide +kernel) (hts _ mw_1403)) (hts _ mw_1405) (hts _ ms_Mo_letter) ⟨tz_blind, sv_recv (q0 := 0) hts in_Mo hK hI kM_0 rfl, fun U hU hW => ⟨rfl, by rw [hU], by rw [hU]; exact hI.1, va_K.moved hW.alike hK, hst _ _ hI.2 U hU hW⟩⟩ rfl rfl hl.1 rfl (lv_room (Nat.le_of_ble_eq_true rfl)) d_Mo_showText_87 ⟨Nat.le_of_ble_eq_true rfl, Nat.le_of_ble_eq_true rfl⟩) hI.2 (fun q _ h => ga_sub hAC hA0 hI.2 q h) (ga_sub hAC hA0 hI.2) (fun v t H1 locs1 ht hWt hpost _ _ hS => ?_) (fun x t H1 locs1 ht hWt hpost _ _ hS => (hpost.2 x rfl).elim)
                  rcases hpost.1 _ rfl with ⟨hv, c406, c406_0, hI1⟩ | ⟨hv, c407, hI1⟩ | ⟨t_sh408, hv, c409, c409_0, c409_1, c409_2, hI1⟩
                  · omega
                  · cases hv
                    have hI : sI (dC, dI) vcl cI cJ (gsM a th tr dp zi co t_sh392 lt ts mf) A s.heap H1 locs1 := ⟨by rw [← ht]; exact hI1, hS⟩
                    clear hpost hI1 hS ht hWt
                    revert hI; generalize H1 = H; generalize locs1 = locs; intro hI
                    exact j90z _ _ _ z307 z375 z292 t_sh392 hI c407 (by omega) (by omega) (by omega) (by omega) (by omega) (by omega) (by omega) (by omega) (by omega) (lv_sub hl [3, 4, 1, 0, 2] rfl)
                  · cases hv
                    have hI : sI (dC, dI) vcl cI cJ (gsM a th tr dp zi co t_sh408 lt ts mf) A s.heap H1 locs1 := ⟨by rw [← ht]; exact hI1, hS⟩
                    obtain ⟨-, -, -, -, -, ⟨o410, o411⟩, -, -, -⟩ := id c409
                    clear hpost hI1 hS ht hWt
                    revert hI; generalize H1 = H; generalize locs1 = locs; intro hI
                    exact j90z _ _ _ z307 z375 z292 t_sh408 hI c409 (by omega) (by omega) (by omega) (by omega) (by omega) (by omega) (by omega) (by omega) (by omega) (lv_sub hl [3, 4, 1, 0, 2] rfl)
              · cases hv
                have hI : sI (dC, dI) vcl cI cJ (gsM a th tr dp zi co t_sh384 lt ts mf) A s.heap H1 locs1 := ⟨by rw [← ht]; exact hI1, hS⟩
                obtain ⟨-, -, -, -, -, ⟨o412, o413⟩, -, -, -⟩ := id c385
                clear hpost hI1 hS ht hWt
                revert hI; generalize H1 = H; generalize locs1 = locs; intro hI
                refine lv_aload_n hx hb d_Mo_showText_69 rfl (lv_at hl 3 rfl) ?_
                refine lv_iload hx hb d_Mo_showText_70 (lv_at hl 2 rfl) ?_
                refine sn_bipush hx hb d_Mo_showText_72 (by decide) (fun z414 hz414 => ?_)
                refine sn_idiv (k := 32) hx hb d_Mo_showText_74 (by omega) (by omega) (by omega) (fun z415 hz415 => ?_)
                refine sn_bipush hx hb d_Mo_showText_75 (by decide) (fun z416 hz416 => ?_)
                refine sn_irem (k := 32) hx hb d_Mo_showText_77 (by omega) (by omega) (by omega) (fun z417 hz417 => ?_)
                refine tz_call (A1 := ga (adM a) H.size) (tz_runV (C := "StoryMachineModel") (As := [.int z417]) (rest := []) ⟨hx, hb, hml, hown, hts⟩ (c_Mo_letter l hfl dC dI cI cJ a H.size th tr dp zi co t_sh384 lt ts mf z417 c385 (by omega) (by omega) (by omega)) (tx_cb (n := 1) hts rfl rfl ⟨Nat.le_of_ble_eq_true rfl, Nat.le_of_ble_eq_true rfl⟩ (tx_code.of (hts _ mw_1406)) (hts _ mw_12) (by decide +kernel) (hts _ mw_1403)) (hts _ mw_1405) (hts _ ms_Mo_letter) ⟨tz_blind, sv_recv (q0 := 0) hts in_Mo hK hI kM_0 rfl, fun U hU hW => ⟨rfl, by rw [hU], by rw [hU]; exact hI.1, va_K.moved hW.alike hK, hst _ _ hI.2 U hU hW⟩⟩ rfl rfl hl.1 rfl (lv_room (Nat.le_of_ble_eq_true rfl)) d_Mo_showText_78 ⟨Nat.le_of_ble_eq_true rfl, Nat.le_of_ble_eq_true rfl⟩) hI.2 (fun q _ h => ga_sub hAC hA0 hI.2 q h) (ga_sub hAC hA0 hI.2) (fun v t H1 locs1 ht hWt hpost _ _ hS => ?_) (fun x t H1 locs1 ht hWt hpost _ _ hS => (hpost.2 x rfl).elim)
                rcases hpost.1 _ rfl with ⟨hv, c418, c418_0, hI1⟩ | ⟨hv, c419, hI1⟩ | ⟨t_sh420, hv, c421, c421_0, c421_1, c421_2, hI1⟩
                · omega
                · cases hv
                  have hI : sI (dC, dI) vcl cI cJ (gsM a th tr dp zi co t_sh384 lt ts mf) A s.heap H1 locs1 := ⟨by rw [← ht]; exact hI1, hS⟩
                  clear hpost hI1 hS ht hWt
                  revert hI; generalize H1 = H; generalize locs1 = locs; intro hI
                  refine lv_aload_n hx hb d_Mo_showText_81 rfl (lv_at hl 3 rfl) ?_
                  refine lv_iload hx hb d_Mo_showText_82 (lv_at hl 2 rfl) ?_
                  refine sn_bipush hx hb d_Mo_showText_84 (by decide) (fun z422 hz422 => ?_)
                  refine sn_irem (k := 32) hx hb d_Mo_showText_86 (by omega) (by omega) (by omega) (fun z423 hz423 => ?_)
                  refine tz_call (A1 := ga (adM a) H.size) (tz_runV (C := "StoryMachineModel") (As := [.int z423]) (rest := []) ⟨hx, hb, hml, hown, hts⟩ (c_Mo_letter l hfl dC dI cI cJ a H.size th tr dp zi co t_sh384 lt ts mf z423 c419 (by omega) (by omega) (by omega)) (tx_cb (n := 1) hts rfl rfl ⟨Nat.le_of_ble_eq_true rfl, Nat.le_of_ble_eq_true rfl⟩ (tx_code.of (hts _ mw_1406)) (hts _ mw_12) (by decide +kernel) (hts _ mw_1403)) (hts _ mw_1405) (hts _ ms_Mo_letter) ⟨tz_blind, sv_recv (q0 := 0) hts in_Mo hK hI kM_0 rfl, fun U hU hW => ⟨rfl, by rw [hU], by rw [hU]; exact hI.1, va_K.moved hW.alike hK, hst _ _ hI.2 U hU hW⟩⟩ rfl rfl hl.1 rfl (lv_room (Nat.le_of_ble_eq_true rfl)) d_Mo_showText_87 ⟨Nat.le_of_ble_eq_true rfl, Nat.le_of_ble_eq_true rfl⟩) hI.2 (fun q _ h => ga_sub hAC hA0 hI.2 q h) (ga_sub hAC hA0 hI.2) (fun v t H1 locs1 ht hWt hpost _ _ hS => ?_) (fun x t H1 locs1 ht hWt hpost _ _ hS => (hpost.2 x rfl).elim)
                  rcases hpost.1 _ rfl with ⟨hv, c424, c424_0, hI1⟩ | ⟨hv, c425, hI1⟩ | ⟨t_sh426, hv, c427, c427_0, c427_1, c427_2, hI1⟩
                  · omega
                  · cases hv
                    have hI : sI (dC, dI) vcl cI cJ (gsM a th tr dp zi co t_sh384 lt ts mf) A s.heap H1 locs1 := ⟨by rw [← ht]; exact hI1, hS⟩
                    clear hpost hI1 hS ht hWt
                    revert hI; generalize H1 = H; generalize locs1 = locs; intro hI
                    exact j90z _ _ _ z307 z375 z292 t_sh384 hI c425 (by omega) (by omega) (by omega) (by omega) (by omega) (by omega) (by omega) (by omega) (by omega) (lv_sub hl [3, 4, 1, 0, 2] rfl)
                  · cases hv
                    have hI : sI (dC, dI) vcl cI cJ (gsM a th tr dp zi co t_sh426 lt ts mf) A s.heap H1 locs1 := ⟨by rw [← ht]; exact hI1, hS⟩
                    obtain ⟨-, -, -, -, -, ⟨o428, o429⟩, -, -, -⟩ := id c427
                    clear hpost hI1 hS ht hWt
                    revert hI; generalize H1 = H; generalize locs1 = locs; intro hI
                    exact j90z _ _ _ z307 z375 z292 t_sh426 hI c427 (by omega) (by omega) (by omega) (by omega) (by omega) (by omega) (by omega) (by omega) (by omega) (lv_sub hl [3, 4, 1, 0, 2] rfl)
                · cases hv
                  have hI : sI (dC, dI) vcl cI cJ (gsM a th tr dp zi co t_sh420 lt ts mf) A s.heap H1 locs1 := ⟨by rw [← ht]; exact hI1, hS⟩
                  obtain ⟨-, -, -, -, -, ⟨o430, o431⟩, -, -, -⟩ := id c421
                  clear hpost hI1 hS ht hWt
                  revert hI; generalize H1 = H; generalize locs1 = locs; intro hI
                  refine lv_aload_n hx hb d_Mo_showText_81 rfl (lv_at hl 3 rfl) ?_
                  refine lv_iload hx hb d_Mo_showText_82 (lv_at hl 2 rfl) ?_
                  refine sn_bipush hx hb d_Mo_showText_84 (by decide) (fun z432 hz432 => ?_)
                  refine sn_irem (k := 32) hx hb d_Mo_showText_86 (by omega) (by omega) (by omega) (fun z433 hz433 => ?_)
                  refine tz_call (A1 := ga (adM a) H.size) (tz_runV (C := "StoryMachineModel") (As := [.int z433]) (rest := []) ⟨hx, hb, hml, hown, hts⟩ (c_Mo_letter l hfl dC dI cI cJ a H.size th tr dp zi co t_sh420 lt ts mf z433 c421 (by omega) (by omega) (by omega)) (tx_cb (n := 1) hts rfl rfl ⟨Nat.le_of_ble_eq_true rfl, Nat.le_of_ble_eq_true rfl⟩ (tx_code.of (hts _ mw_1406)) (hts _ mw_12) (by decide +kernel) (hts _ mw_1403)) (hts _ mw_1405) (hts _ ms_Mo_letter) ⟨tz_blind, sv_recv (q0 := 0) hts in_Mo hK hI kM_0 rfl, fun U hU hW => ⟨rfl, by rw [hU], by rw [hU]; exact hI.1, va_K.moved hW.alike hK, hst _ _ hI.2 U hU hW⟩⟩ rfl rfl hl.1 rfl (lv_room (Nat.le_of_ble_eq_true rfl)) d_Mo_showText_87 ⟨Nat.le_of_ble_eq_true rfl, Nat.le_of_ble_eq_true rfl⟩) hI.2 (fun q _ h => ga_sub hAC hA0 hI.2 q h) (ga_sub hAC hA0 hI.2) (fun v t H1 locs1 ht hWt hpost _ _ hS => ?_) (fun x t H1 locs1 ht hWt hpost _ _ hS => (hpost.2 x rfl).elim)
                  rcases hpost.1 _ rfl with ⟨hv, c434, c434_0, hI1⟩ | ⟨hv, c435, hI1⟩ | ⟨t_sh436, hv, c437, c437_0, c437_1, c437_2, hI1⟩
                  · omega
                  · cases hv
                    have hI : sI (dC, dI) vcl cI cJ (gsM a th tr dp zi co t_sh420 lt ts mf) A s.heap H1 locs1 := ⟨by rw [← ht]; exact hI1, hS⟩
                    clear hpost hI1 hS ht hWt
                    revert hI; generalize H1 = H; generalize locs1 = locs; intro hI
                    exact j90z _ _ _ z307 z375 z292 t_sh420 hI c435 (by omega) (by omega) (by omega) (by omega) (by omega) (by omega) (by omega) (by omega) (by omega) (lv_sub hl [3, 4, 1, 0, 2] rfl)
                  · cases hv
                    have hI : sI (dC, dI) vcl cI cJ (gsM a th tr dp zi co t_sh436 lt ts mf) A s.heap H1 locs1 := ⟨by rw [← ht]; exact hI1, hS⟩
                    obtain ⟨-, -, -, -, -, ⟨o438, o439⟩, -, -, -⟩ := id c437
                    clear hpost hI1 hS ht hWt
                    revert hI; generalize H1 = H; generalize locs1 = locs; intro hI
                    exact j90z _ _ _ z307 z375 z292 t_sh436 hI c437 (by omega) (by omega) (by omega) (by omega) (by omega) (by omega) (by omega) (by omega) (by omega) (lv_sub hl [3, 4, 1, 0, 2] rfl)
  refine lv_aload_n hx hb d_Mo_showText_0 rfl (lv_at hl 0 rfl) ?_
  refine sn_iconst hx hb d_Mo_showText_1 (by decide) (fun z440 hz440 => ?_)
  refine sv_put (C := "StoryMachineModel") (T := T_Mo) (N := 51) (ty := .int) hx hb hts in_Mo t_Mo tk_Mo nm_Mo hown hK (sh_in adM_map hAC) hI 0 kM_0 rfl 44 (by decide) (hts _ mw_1107) rfl (by decide +kernel) rfl rfl (Nat.le_of_ble_eq_true rfl) (by omega) (by omega) pM_0_44 d_Mo_showText_2 (fun H locs hI => ?_)
  refine lv_aload_n hx hb d_Mo_showText_5 rfl (lv_at hl 0 rfl) ?_
  refine sn_iconst hx hb d_Mo_showText_6 (by decide) (fun z441 hz441 => ?_)
  refine sv_put (C := "StoryMachineModel") (T := T_Mo) (N := 51) (ty := .int) hx hb hts in_Mo t_Mo tk_Mo nm_Mo hown hK (sh_in adM_map hAC) hI 0 kM_0 rfl 45 (by decide) (hts _ mw_1108) rfl (by decide +kernel) rfl rfl (Nat.le_of_ble_eq_true rfl) (by omega) (by omega) pM_0_45 d_Mo_showText_7 (fun H locs hI => ?_)
  refine lv_iload_n hx hb d_Mo_showText_10 rfl (lv_at hl 1 rfl) ?_
  refine lv_istore_n (lv' := [(2, .int x1), (0, .ref (a 0)), (1, .int x1)]) hx hb d_Mo_showText_11 rfl hl (by decide) rfl (fun ls hl => ?_)
  refine sn_iconst hx hb d_Mo_showText_12 (by decide) (fun z442 hz442 => ?_)
  refine lv_istore_n (lv' := [(3, .int z442), (2, .int x1), (0, .ref (a 0)), (1, .int x1)]) hx hb d_Mo_showText_13 rfl hl (by decide) rfl (fun ls hl => ?_)
  exact j14u _ _ _ z442 hI hok (by omega) (by omega) (by omega) (lv_sub hl [2, 3, 1, 0] rfl)
