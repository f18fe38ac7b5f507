abbrev q_Mo_call (dC : Nat → ClassId) (dI : Nat → Nat → Nat) (cI cJ : ClassId) (a : Nat → Nat) (th tr dp zi co sh lt ts : Int) (mf : Nat → Int32) : Outcome → State → Prop := fun o t => (∀ v, o = .returned v → ((∃ (tr_ : Int), v = none ∧ okM th tr_ dp zi co sh lt ts mf ∧ (1 ≤ tr_) ∧ sh_I (dC, dI) vcl cI cJ (gsM a th tr_ dp zi co sh lt ts mf) t.heap) ∨ (∃ (dp_ zi_ : Int) (mf_ : Nat → Int32), v = none ∧ okM th tr dp_ zi_ co sh lt ts mf_ ∧ (tr ≤ 0) ∧ sh_I (dC, dI) vcl cI cJ (gsM a th tr dp_ zi_ co sh lt ts mf_) t.heap))) ∧ (∀ x, o = .threw x → (False))
def rm_Mo_call : Room := { frames := 6, cells := 0, slots := 0, locals := 131 }
set_option maxHeartbeats 4000000 in
set_option maxRecDepth 100000 in
theorem c_Mo_call (l : Launch) (hfl : l.flags = pinnedFlags ++ [noTraceFlag]) (dC : Nat → ClassId) (dI : Nat → Nat → Nat) (cI cJ : ClassId) (a : Nat → Nat) (sz : Nat) (th tr dp zi co sh lt ts : Int) (mf : Nat → Int32) (hok : okM th tr dp zi co sh lt ts mf) : tz_Met l ⟨"StoryMachineModel", "call", "()V"⟩ tw_tbl rm_Mo_call (tzP (dC, dI) vcl cI cJ (gsM a th tr dp zi co sh lt ts mf) a (adM a) [.ref (a 0)] sz) (tq_Q (q_Mo_call dC dI cI cJ a th tr dp zi co sh lt ts mf) (ga (adM a) sz)) 0 0 0 0 (ga (adM a) sz) := by
  refine tz_ofW (cc := prog_13_method_46_code) (maxL := 5) (ret := none) (by decide) (tx_isM mw_1444) ?_
  intro p e s m args below meth c s₁ B hml hv
  obtain ⟨rfl, hsz, hI0, hK, hst0⟩ := hv
  have hx := B.exec
  have hb := B.bytes
  have hr := B.returns
  have hts := atoms_spec (ws := tw_tbl) B.pre
  have hown : s.vm.findClass "StoryMachineModel" = some m.cls := findClass_of_methodNamed B.named
  have hlocks := B.notSynchronized
  subst hsz
  have hst := fun (H : Heap) (locs : List Loc) (hS : va_S (ga (adM a) s.heap.size) s.heap H locs) (U : State) (hU : U.heap = H) (hW : s.WarmedH U.vm) => zS_all adM_map hI0 hst0 hS hU hW
  have hAC : ∀ q ∈ adM a, ga (adM a) s.heap.size q := fun q h => Or.inl h
  have hA0 : ∀ q, s.heap.size ≤ q → ga (adM a) s.heap.size q := fun q h => Or.inr h
  have hI : sI (dC, dI) vcl cI cJ (gsM a th tr dp zi co sh lt ts mf) (ga (adM a) s.heap.size) s.heap s.heap [] := ⟨hI0, va_S.rf⟩
  clear hI0 hst0
  have hl := lv_entry ([.ref (a 0)]) (n := 5) (Nat.le_of_ble_eq_true rfl)
  rw [lg_entry_eq]
  generalize (lg_sl ([.ref (a 0)]) ++ List.replicate (5 - (lg_sl ([.ref (a 0)])).length) Slot.unset).toArray = ls at hl ⊢
  have hl : lv_has ls 5 [(0, .ref (a 0))] := hl
  generalize hZ : tz_MQ below (tq_Q (q_Mo_call dC dI cI cJ a th tr dp zi co sh lt ts mf) (ga (adM a) s.heap.size)) ([.ref (a 0)] : List Value).toArray s 0 0 0 0 (ga (adM a) s.heap.size) = Z
  obtain ⟨A, hAe⟩ : ∃ A, A = ga (adM a) s.heap.size := ⟨_, rfl⟩
  rw [← hAe] at hst hAC hA0 hI hZ
  refine sv_start hI (fun H locs hI => ?_)
  obtain ⟨⟨o1, o2⟩, ⟨o3, o4⟩, ⟨o5, o6⟩, ⟨o7, o8⟩, ⟨o9, o10⟩, ⟨o11, o12⟩, ⟨o13, o14⟩, ⟨o15, o16⟩, -⟩ := id hok
  have j70p : ∀ (n : Nat) (H : Heap) (locs : List Loc) (ls : Array Slot) (v70p_1 v70p_2 v70p_3 v70p_4 : Int32) (t70p_tr : Int), sI (dC, dI) vcl cI cJ (gsM a th t70p_tr dp zi co sh lt ts mf) A s.heap H locs → okM th t70p_tr dp zi co sh lt ts mf → 1 ≤ v70p_1.toInt → v70p_1.toInt ≤ 65535 → 1 ≤ v70p_2.toInt → v70p_2.toInt ≤ 15 → 1 ≤ v70p_3.toInt → v70p_3.toInt ≤ 15 → 0 ≤ v70p_4.toInt → v70p_4.toInt ≤ 65280 → 1 ≤ t70p_tr → t70p_tr ≤ 4 → dp ≤ 9 → tr ≤ 0 → lv_has ls 5 [(0, .ref (a 0)), (1, .int v70p_1), (2, .int v70p_2), (3, .int v70p_3), (4, .int v70p_4)] → 15 - v70p_3.toInt < (n : Int) → W p l e (headSpec tw_tbl rm_Mo_call).room s m ([.ref (a 0)] : List Value).toArray below meth c H locs 0 0 Z (F0 m 70 ls []) := by
    intro n
    induction n with
    | zero => intro H locs ls v70p_1 v70p_2 v70p_3 v70p_4 t70p_tr hI hok g70_0 g70_1 g70_2 g70_3 g70_4 g70_5 g70_6 g70_7 g70_8 g70_9 g70_10 g70_11 hl hme; exfalso; obtain ⟨⟨o17, o18⟩, ⟨o19, o20⟩, ⟨o21, o22⟩, ⟨o23, o24⟩, ⟨o25, o26⟩, ⟨o27, o28⟩, ⟨o29, o30⟩, ⟨o31, o32⟩, -⟩ := id hok; omega
    | succ n ih =>
      intro H locs ls v70p_1 v70p_2 v70p_3 v70p_4 t70p_tr hI hok g70_0 g70_1 g70_2 g70_3 g70_4 g70_5 g70_6 g70_7 g70_8 g70_9 g70_10 g70_11 hl hme
      obtain ⟨⟨o33, o34⟩, ⟨o35, o36⟩, ⟨o37, o38⟩, ⟨o39, o40⟩, ⟨o41, o42⟩, ⟨o43, o44⟩, ⟨o45, o46⟩, ⟨o47, o48⟩, -⟩ := id hok
      refine lv_iload_n hx hb d_Mo_call_70 rfl (lv_at hl 3 rfl) ?_
      refine lv_iload_n hx hb d_Mo_call_71 rfl (lv_at hl 2 rfl) ?_
      refine sn_icmp_ge (tgt := 135) hx hb d_Mo_call_72 (by decide) (fun b49 => ?_) (fun b49 => ?_)
      · refine lv_aload_n hx hb d_Mo_call_135 rfl (lv_at hl 0 rfl) ?_
        refine sv_gete (C := "StoryMachineModel") (T := T_Mo) (N := 51) hx hb hts in_Mo hown hK hI 0 kM_0 rfl 25 (by decide) (hts _ mw_1088) rfl d_Mo_call_136 (fun z50 hz50 => ?_)
        refine sn_if_le (tgt := 143) hx hb d_Mo_call_139 (by decide) (fun b51 => ?_) (fun b51 => ?_)
        · omega
        · subst hZ
          exact tz_ret (W.vret hx hb hr (fun t ht hW => ⟨⟨fun v9 hv9 => by cases hv9; exact (Or.inl ⟨t70p_tr, rfl, hok, by omega, by rw [ht]; exact hI.1⟩), fun x9 hx9 => (by cases hx9)⟩, hI.2.F ht⟩) hI.2.2.2 d_Mo_call_142)
      · refine lv_aload_n hx hb d_Mo_call_75 rfl (lv_at hl 0 rfl) ?_
        refine sn_iconst hx hb d_Mo_call_76 (by decide) (fun z52 hz52 => ?_)
        refine lv_iload_n hx hb d_Mo_call_77 rfl (lv_at hl 1 rfl) ?_
        refine sn_imulL (k := 2) hx hb d_Mo_call_78 (by omega) (by omega) (by omega) (fun z53 hz53 => ?_)
        refine sn_iconst hx hb d_Mo_call_79 (by decide) (fun z54 hz54 => ?_)
        refine sn_iadd hx hb d_Mo_call_80 (by omega) (by omega) (fun z55 hz55 => ?_)
        refine sn_iconst hx hb d_Mo_call_81 (by decide) (fun z56 hz56 => ?_)
        refine lv_iload_n hx hb d_Mo_call_82 rfl (lv_at hl 3 rfl) ?_
        refine sn_imulL (k := 2) hx hb d_Mo_call_83 (by omega) (by omega) (by omega) (fun z57 hz57 => ?_)
        refine sn_iadd hx hb d_Mo_call_84 (by omega) (by omega) (fun z58 hz58 => ?_)
        refine tz_call (A1 := ga (adM a) H.size) (tz_runV (C := "StoryMachineModel") (As := [.int z58]) (rest := []) ⟨hx, hb, hml, hown, hts⟩ (c_Mo_wordAt l hfl dC dI cI cJ a H.size th t70p_tr dp zi co sh lt ts mf z58 hok) (tx_cb (n := 1) hts rfl rfl ⟨Nat.le_of_ble_eq_true rfl, Nat.le_of_ble_eq_true rfl⟩ (tx_code.of (hts _ mw_1252)) (hts _ mw_12) (by decide +kernel) (hts _ mw_1249)) (hts _ mw_1251) (hts _ ms_Mo_wordAt) ⟨tz_blind, sv_recv (q0 := 0) hts in_Mo hK hI kM_0 rfl, fun U hU hW => ⟨rfl, by rw [hU], by rw [hU]; exact hI.1, va_K.moved hW.alike hK, hst _ _ hI.2 U hU hW⟩⟩ rfl rfl hl.1 rfl (lv_room (Nat.le_of_ble_eq_true rfl)) d_Mo_call_85 ⟨Nat.le_of_ble_eq_true rfl, Nat.le_of_ble_eq_true rfl⟩) hI.2 (fun q _ h => ga_sub hAC hA0 hI.2 q h) (ga_sub hAC hA0 hI.2) (fun v t H1 locs1 ht hWt hpost _ _ hS => ?_) (fun x t H1 locs1 ht hWt hpost _ _ hS => (hpost.2 x rfl).elim)
        rcases hpost.1 _ rfl with ⟨z59, t_tr60, hv, c61, c61_0, c61_1, c61_2, hI1⟩ | ⟨z62, hv, c63, c63_0, c63_1, c63_2, c63_3, c63_4, hI1⟩
        · cases hv
          have hI : sI (dC, dI) vcl cI cJ (gsM a th t_tr60 dp zi co sh lt ts mf) A s.heap H1 locs1 := ⟨by rw [← ht]; exact hI1, hS⟩
          obtain ⟨-, ⟨o64, o65⟩, -, -, -, -, -, -, -⟩ := id c61
          clear hpost hI1 hS ht hWt
          revert hI; generalize H1 = H; generalize locs1 = locs; intro hI
          refine lv_istore (lv' := [(4, .int z59), (0, .ref (a 0)), (1, .int v70p_1), (2, .int v70p_2), (3, .int v70p_3)]) hx hb d_Mo_call_88 hl (by decide) rfl (fun ls hl => ?_)
          refine lv_aload_n hx hb d_Mo_call_90 rfl (lv_at hl 1 rfl) ?_
          refine sv_getr (C := "StoryMachineModel") (T := T_Mo) (N := 51) hx hb hts in_Mo hown hK hI 0 kM_0 rfl 9 (by decide) (hts _ mw_1072) rfl d_Mo_call_91 ?_
          refine sn_bipush hx hb d_Mo_call_94 (by decide) (fun z66 hz66 => ?_)
          refine lv_aload_n hx hb d_Mo_call_96 rfl (lv_at hl 1 rfl) ?_
          refine sv_gete (C := "StoryMachineModel") (T := T_Mo) (N := 51) hx hb hts in_Mo hown hK hI 0 kM_0 rfl 4 (by decide) (hts _ mw_1067) rfl d_Mo_call_97 (fun z67 hz67 => ?_)
          refine sn_iconst hx hb d_Mo_call_100 (by decide) (fun z68 hz68 => ?_)
          refine sn_iadd hx hb d_Mo_call_101 (by omega) (by omega) (fun z69 hz69 => ?_)
          refine sn_imulL (k := 15) hx hb d_Mo_call_102 (by omega) (by omega) (by omega) (fun z70 hz70 => ?_)
          refine lv_iload_n hx hb d_Mo_call_103 rfl (lv_at hl 4 rfl) ?_
          refine sn_iadd hx hb d_Mo_call_104 (by omega) (by omega) (fun z71 hz71 => ?_)
          refine lv_iload_n hx hb d_Mo_call_105 rfl (lv_at hl 4 rfl) ?_
          refine sn_iconst hx hb d_Mo_call_106 (by decide) (fun z72 hz72 => ?_)
          refine sn_iadd hx hb d_Mo_call_107 (by omega) (by omega) (fun z73 hz73 => ?_)
          refine lv_aload_n hx hb d_Mo_call_108 rfl (lv_at hl 1 rfl) ?_
          refine sv_gete (C := "StoryMachineModel") (T := T_Mo) (N := 51) hx hb hts in_Mo hown hK hI 0 kM_0 rfl 38 (by decide) (hts _ mw_1101) rfl d_Mo_call_109 (fun z74 hz74 => ?_)
          refine sn_icmp_ge (tgt := 126) hx hb d_Mo_call_112 (by decide) (fun b75 => ?_) (fun b75 => ?_)
          · refine lv_iload hx hb d_Mo_call_126 (lv_at hl 0 rfl) ?_
            refine sv_iastr hx hb hK (sh_in adM_map hAC) hI 7 kM_7 (by omega) (by omega) (by omega) (by omega) pM_7 d_Mo_call_128 (fun H locs hI => ?_)
            refine sn_iinc (k := 4) hx hb d_Mo_call_129 hl rfl (by decide) (by decide) (by omega) (by omega) (fun ls z76 hz76 hl => ?_)
            have hl : lv_has ls 5 [(3, .int z76), (4, .int z59), (0, .ref (a 0)), (1, .int v70p_1), (2, .int v70p_2)] := hl
            refine lv_goto (tgt := 70) hx hb d_Mo_call_132 (by decide) ?_
            exact ih _ _ _ v70p_1 v70p_2 z76 z59 t_tr60 hI c61 (by omega) (by omega) (by omega) (by omega) (by omega) (by omega) (by omega) (by omega) (by omega) (by omega) (by omega) (by omega) (lv_sub hl [2, 3, 4, 0, 1] rfl) (by omega)
          · refine lv_aload_n hx hb d_Mo_call_115 rfl (lv_at hl 1 rfl) ?_
            refine sv_getr (C := "StoryMachineModel") (T := T_Mo) (N := 51) hx hb hts in_Mo hown hK hI 0 kM_0 rfl 39 (by decide) (hts _ mw_1102) rfl d_Mo_call_116 ?_
            refine lv_iload_n hx hb d_Mo_call_119 rfl (lv_at hl 4 rfl) ?_
            refine sn_iconst hx hb d_Mo_call_120 (by decide) (fun z77 hz77 => ?_)
            refine sn_iadd hx hb d_Mo_call_121 (by omega) (by omega) (fun z78 hz78 => ?_)
            refine sv_ialdr hx hb hK hI 18 kM_18 (by omega) (by omega) d_Mo_call_122 (fun z79 hz79a hz79b => ?_)
            refine lv_goto (tgt := 128) hx hb d_Mo_call_123 (by decide) ?_
            refine sv_iastr hx hb hK (sh_in adM_map hAC) hI 7 kM_7 (by omega) (by omega) (by omega) (by omega) pM_7 d_Mo_call_128 (fun H locs hI => ?_)
            refine sn_iinc (k := 4) hx hb d_Mo_call_129 hl rfl (by decide) (by decide) (by omega) (by omega) (fun ls z80 hz80 hl => ?_)
            have hl : lv_has ls 5 [(3, .int z80), (4, .int z59), (0, .ref (a 0)), (1, .int v70p_1), (2, .int v70p_2)] := hl
            refine lv_goto (tgt := 70) hx hb d_Mo_call_132 (by decide) ?_
            exact ih _ _ _ v70p_1 v70p_2 z80 z59 t_tr60 hI c61 (by omega) (by omega) (by omega) (by omega) (by omega) (by omega) (by omega) (by omega) (by omega) (by omega) (by omega) (by omega) (lv_sub hl [2, 3, 4, 0, 1] rfl) (by omega)
        · omega
  have j70z : ∀ (n : Nat) (H : Heap) (locs : List Loc) (ls : Array Slot) (v70z_1 v70z_2 v70z_3 : Int32), sI (dC, dI) vcl cI cJ (gsM a th tr dp zi co sh lt ts mf) A s.heap H locs → okM th tr dp zi co sh lt ts mf → 1 ≤ v70z_1.toInt → v70z_1.toInt ≤ 65535 → 0 ≤ v70z_2.toInt → v70z_2.toInt ≤ 15 → 0 ≤ v70z_3.toInt → v70z_3.toInt ≤ 15 → dp ≤ 9 → tr ≤ 0 → lv_has ls 5 [(0, .ref (a 0)), (1, .int v70z_1), (2, .int v70z_2), (3, .int v70z_3)] → 15 - v70z_3.toInt < (n : Int) → W p l e (headSpec tw_tbl rm_Mo_call).room s m ([.ref (a 0)] : List Value).toArray below meth c H locs 0 0 Z (F0 m 70 ls []) := by
    intro n
    induction n with
    | zero => intro H locs ls v70z_1 v70z_2 v70z_3 hI hok g70_0 g70_1 g70_2 g70_3 g70_4 g70_5 g70_6 g70_7 hl hme; exfalso; obtain ⟨⟨o81, o82⟩, ⟨o83, o84⟩, ⟨o85, o86⟩, ⟨o87, o88⟩, ⟨o89, o90⟩, ⟨o91, o92⟩, ⟨o93, o94⟩, ⟨o95, o96⟩, -⟩ := id hok; omega
    | succ n ih =>
      intro H locs ls v70z_1 v70z_2 v70z_3 hI hok g70_0 g70_1 g70_2 g70_3 g70_4 g70_5 g70_6 g70_7 hl hme
      obtain ⟨⟨o97, o98⟩, ⟨o99, o100⟩, ⟨o101, o102⟩, ⟨o103, o104⟩, ⟨o105, o106⟩, ⟨o107, o108⟩, ⟨o109, o110⟩, ⟨o111, o112⟩, -⟩ := id hok
      refine lv_iload_n hx hb d_Mo_call_70 rfl (lv_at hl 3 rfl) ?_
      refine lv_iload_n hx hb d_Mo_call_71 rfl (lv_at hl 2 rfl) ?_
      refine sn_icmp_ge (tgt := 135) hx hb d_Mo_call_72 (by decide) (fun b113 => ?_) (fun b113 => ?_)
      · refine lv_aload_n hx hb d_Mo_call_135 rfl (lv_at hl 0 rfl) ?_
        refine sv_gete (C := "StoryMachineModel") (T := T_Mo) (N := 51) hx hb hts in_Mo hown hK hI 0 kM_0 rfl 25 (by decide) (hts _ mw_1088) rfl d_Mo_call_136 (fun z114 hz114 => ?_)
        refine sn_if_le (tgt := 143) hx hb d_Mo_call_139 (by decide) (fun b115 => ?_) (fun b115 => ?_)
        · refine lv_aload_n hx hb d_Mo_call_143 rfl (lv_at hl 0 rfl) ?_
          refine lv_dup hx hb d_Mo_call_144 rfl ?_
          refine sv_gete (C := "StoryMachineModel") (T := T_Mo) (N := 51) hx hb hts in_Mo hown hK hI 0 kM_0 rfl 4 (by decide) (hts _ mw_1067) rfl d_Mo_call_145 (fun z116 hz116 => ?_)
          refine sn_iconst hx hb d_Mo_call_148 (by decide) (fun z117 hz117 => ?_)
          refine sn_iadd hx hb d_Mo_call_149 (by omega) (by omega) (fun z118 hz118 => ?_)
          refine sv_put (C := "StoryMachineModel") (T := T_Mo) (N := 51) (ty := .int) hx hb hts in_Mo t_Mo tk_Mo nm_Mo hown hK (sh_in adM_map hAC) hI 0 kM_0 rfl 4 (by decide) (hts _ mw_1067) rfl (by decide +kernel) rfl rfl (Nat.le_of_ble_eq_true rfl) (Int.le_refl _) (Int.le_refl _) pM_0_4 d_Mo_call_150 (fun H locs hI => ?_)
          refine lv_aload_n hx hb d_Mo_call_153 rfl (lv_at hl 0 rfl) ?_
          refine sv_getr (C := "StoryMachineModel") (T := T_Mo) (N := 51) hx hb hts in_Mo hown hK hI 0 kM_0 rfl 5 (by decide) (hts _ mw_1068) rfl d_Mo_call_154 ?_
          refine lv_aload_n hx hb d_Mo_call_157 rfl (lv_at hl 0 rfl) ?_
          refine sv_gete (C := "StoryMachineModel") (T := T_Mo) (N := 51) hx hb hts in_Mo hown hK hI 0 kM_0 rfl 4 (by decide) (hts _ mw_1067) rfl d_Mo_call_158 (fun z119 hz119 => ?_)
          refine lv_iload_n hx hb d_Mo_call_161 rfl (lv_at hl 2 rfl) ?_
          refine sv_iastr hx hb hK (sh_in adM_map hAC) hI 3 kM_3 (by omega) (by omega) (by omega) (by omega) pM_3 d_Mo_call_162 (fun H locs hI => ?_)
          refine lv_aload_n hx hb d_Mo_call_163 rfl (lv_at hl 0 rfl) ?_
          refine sv_getr (C := "StoryMachineModel") (T := T_Mo) (N := 51) hx hb hts in_Mo hown hK hI 0 kM_0 rfl 6 (by decide) (hts _ mw_1069) rfl d_Mo_call_164 ?_
          refine lv_aload_n hx hb d_Mo_call_167 rfl (lv_at hl 0 rfl) ?_
          refine sv_gete (C := "StoryMachineModel") (T := T_Mo) (N := 51) hx hb hts in_Mo hown hK hI 0 kM_0 rfl 4 (by decide) (hts _ mw_1067) rfl d_Mo_call_168 (fun z120 hz120 => ?_)
          refine lv_aload_n hx hb d_Mo_call_171 rfl (lv_at hl 0 rfl) ?_
          refine sv_gete (C := "StoryMachineModel") (T := T_Mo) (N := 51) hx hb hts in_Mo hown hK hI 0 kM_0 rfl 2 (by decide) (hts _ mw_1065) rfl d_Mo_call_172 (fun z121 hz121 => ?_)
          refine sv_iastr hx hb hK (sh_in adM_map hAC) hI 4 kM_4 (by omega) (by omega) (by omega) (by omega) pM_4 d_Mo_call_175 (fun H locs hI => ?_)
          refine lv_aload_n hx hb d_Mo_call_176 rfl (lv_at hl 0 rfl) ?_
          refine sv_getr (C := "StoryMachineModel") (T := T_Mo) (N := 51) hx hb hts in_Mo hown hK hI 0 kM_0 rfl 7 (by decide) (hts _ mw_1070) rfl d_Mo_call_177 ?_
          refine lv_aload_n hx hb d_Mo_call_180 rfl (lv_at hl 0 rfl) ?_
          refine sv_gete (C := "StoryMachineModel") (T := T_Mo) (N := 51) hx hb hts in_Mo hown hK hI 0 kM_0 rfl 4 (by decide) (hts _ mw_1067) rfl d_Mo_call_181 (fun z122 hz122 => ?_)
          refine lv_aload_n hx hb d_Mo_call_184 rfl (lv_at hl 0 rfl) ?_
          refine sv_get (C := "StoryMachineModel") (T := T_Mo) (N := 51) hx hb hts in_Mo hown hK hI 0 kM_0 rfl 43 (by decide) (hts _ mw_1106) rfl d_Mo_call_185 (fun z123 hz123a hz123b => ?_)
          refine sv_iastr hx hb hK (sh_in adM_map hAC) hI 5 kM_5 (by omega) (by omega) (by omega) (by omega) pM_5 d_Mo_call_188 (fun H locs hI => ?_)
          refine lv_aload_n hx hb d_Mo_call_189 rfl (lv_at hl 0 rfl) ?_
          refine sv_getr (C := "StoryMachineModel") (T := T_Mo) (N := 51) hx hb hts in_Mo hown hK hI 0 kM_0 rfl 8 (by decide) (hts _ mw_1071) rfl d_Mo_call_190 ?_
          refine lv_aload_n hx hb d_Mo_call_193 rfl (lv_at hl 0 rfl) ?_
          refine sv_gete (C := "StoryMachineModel") (T := T_Mo) (N := 51) hx hb hts in_Mo hown hK hI 0 kM_0 rfl 4 (by decide) (hts _ mw_1067) rfl d_Mo_call_194 (fun z124 hz124 => ?_)
          refine lv_aload_n hx hb d_Mo_call_197 rfl (lv_at hl 0 rfl) ?_
          refine sv_get (C := "StoryMachineModel") (T := T_Mo) (N := 51) hx hb hts in_Mo hown hK hI 0 kM_0 rfl 40 (by decide) (hts _ mw_1103) rfl d_Mo_call_198 (fun z125 hz125a hz125b => ?_)
          refine sv_iastr hx hb hK (sh_in adM_map hAC) hI 6 kM_6 (by omega) (by omega) (by omega) (by omega) pM_6 d_Mo_call_201 (fun H locs hI => ?_)
          refine lv_aload_n hx hb d_Mo_call_202 rfl (lv_at hl 0 rfl) ?_
          refine sn_iconst hx hb d_Mo_call_203 (by decide) (fun z126 hz126 => ?_)
          refine lv_iload_n hx hb d_Mo_call_204 rfl (lv_at hl 1 rfl) ?_
          refine sn_imulL (k := 2) hx hb d_Mo_call_205 (by omega) (by omega) (by omega) (fun z127 hz127 => ?_)
          refine sn_iconst hx hb d_Mo_call_206 (by decide) (fun z128 hz128 => ?_)
          refine sn_iadd hx hb d_Mo_call_207 (by omega) (by omega) (fun z129 hz129 => ?_)
          refine sn_iconst hx hb d_Mo_call_208 (by decide) (fun z130 hz130 => ?_)
          refine lv_iload_n hx hb d_Mo_call_209 rfl (lv_at hl 2 rfl) ?_
          refine sn_imulL (k := 2) hx hb d_Mo_call_210 (by omega) (by omega) (by omega) (fun z131 hz131 => ?_)
          refine sn_iadd hx hb d_Mo_call_211 (by omega) (by omega) (fun z132 hz132 => ?_)
          refine sv_put (C := "StoryMachineModel") (T := T_Mo) (N := 51) (ty := .int) hx hb hts in_Mo t_Mo tk_Mo nm_Mo hown hK (sh_in adM_map hAC) hI 0 kM_0 rfl 28 (by decide) (hts _ mw_1091) rfl (by decide +kernel) rfl rfl (Nat.le_of_ble_eq_true rfl) (by omega) (by omega) pM_0_28 d_Mo_call_212 (fun H locs hI => ?_)
          have ho133 : okM th tr z118.toInt zi co sh lt ts mf := ⟨hok.1, hok.2.1, ⟨by omega, by omega⟩, hok.2.2.2.1, hok.2.2.2.2.1, hok.2.2.2.2.2.1, hok.2.2.2.2.2.2.1, hok.2.2.2.2.2.2.2.1, hok.2.2.2.2.2.2.2.2⟩
          subst hZ
          exact tz_ret (W.vret hx hb hr (fun t ht hW => ⟨⟨fun v9 hv9 => by cases hv9; exact (Or.inr (⟨z118.toInt, zi, mf, rfl, ho133, by omega, by rw [ht]; exact hI.1⟩)), fun x9 hx9 => (by cases hx9)⟩, hI.2.F ht⟩) hI.2.2.2 d_Mo_call_215)
        · omega
      · refine lv_aload_n hx hb d_Mo_call_75 rfl (lv_at hl 0 rfl) ?_
        refine sn_iconst hx hb d_Mo_call_76 (by decide) (fun z134 hz134 => ?_)
        refine lv_iload_n hx hb d_Mo_call_77 rfl (lv_at hl 1 rfl) ?_
        refine sn_imulL (k := 2) hx hb d_Mo_call_78 (by omega) (by omega) (by omega) (fun z135 hz135 => ?_)
        refine sn_iconst hx hb d_Mo_call_79 (by decide) (fun z136 hz136 => ?_)
        refine sn_iadd hx hb d_Mo_call_80 (by omega) (by omega) (fun z137 hz137 => ?_)
        refine sn_iconst hx hb d_Mo_call_81 (by decide) (fun z138 hz138 => ?_)
        refine lv_iload_n hx hb d_Mo_call_82 rfl (lv_at hl 3 rfl) ?_
        refine sn_imulL (k := 2) hx hb d_Mo_call_83 (by omega) (by omega) (by omega) (fun z139 hz139 => ?_)
        refine sn_iadd hx hb d_Mo_call_84 (by omega) (by omega) (fun z140 hz140 => ?_)
        refine tz_call (A1 := ga (adM a) H.size) (tz_runV (C := "StoryMachineModel") (As := [.int z140]) (rest := []) ⟨hx, hb, hml, hown, hts⟩ (c_Mo_wordAt l hfl dC dI cI cJ a H.size th tr dp zi co sh lt ts mf z140 hok) (tx_cb (n := 1) hts rfl rfl ⟨Nat.le_of_ble_eq_true rfl, Nat.le_of_ble_eq_true rfl⟩ (tx_code.of (hts _ mw_1252)) (hts _ mw_12) (by decide +kernel) (hts _ mw_1249)) (hts _ mw_1251) (hts _ ms_Mo_wordAt) ⟨tz_blind, sv_recv (q0 := 0) hts in_Mo hK hI kM_0 rfl, fun U hU hW => ⟨rfl, by rw [hU], by rw [hU]; exact hI.1, va_K.moved hW.alike hK, hst _ _ hI.2 U hU hW⟩⟩ rfl rfl hl.1 rfl (lv_room (Nat.le_of_ble_eq_true rfl)) d_Mo_call_85 ⟨Nat.le_of_ble_eq_true rfl, Nat.le_of_ble_eq_true rfl⟩) hI.2 (fun q _ h => ga_sub hAC hA0 hI.2 q h) (ga_sub hAC hA0 hI.2) (fun v t H1 locs1 ht hWt hpost _ _ hS => ?_) (fun x t H1 locs1 ht hWt hpost _ _ hS => (hpost.2 x rfl).elim)
        rcases hpost.1 _ rfl with ⟨z141, t_tr142, hv, c143, c143_0, c143_1, c143_2, hI1⟩ | ⟨z144, hv, c145, c145_0, c145_1, c145_2, c145_3, c145_4, hI1⟩
        · cases hv
          have hI : sI (dC, dI) vcl cI cJ (gsM a th t_tr142 dp zi co sh lt ts mf) A s.heap H1 locs1 := ⟨by rw [← ht]; exact hI1, hS⟩
          obtain ⟨-, ⟨o146, o147⟩, -, -, -, -, -, -, -⟩ := id c143
          clear hpost hI1 hS ht hWt
          revert hI; generalize H1 = H; generalize locs1 = locs; intro hI
          refine lv_istore (lv' := [(4, .int z141), (0, .ref (a 0)), (1, .int v70z_1), (2, .int v70z_2), (3, .int v70z_3)]) hx hb d_Mo_call_88 hl (by decide) rfl (fun ls hl => ?_)
          refine lv_aload_n hx hb d_Mo_call_90 rfl (lv_at hl 1 rfl) ?_
          refine sv_getr (C := "StoryMachineModel") (T := T_Mo) (N := 51) hx hb hts in_Mo hown hK hI 0 kM_0 rfl 9 (by decide) (hts _ mw_1072) rfl d_Mo_call_91 ?_
          refine sn_bipush hx hb d_Mo_call_94 (by decide) (fun z148 hz148 => ?_)
          refine lv_aload_n hx hb d_Mo_call_96 rfl (lv_at hl 1 rfl) ?_
          refine sv_gete (C := "StoryMachineModel") (T := T_Mo) (N := 51) hx hb hts in_Mo hown hK hI 0 kM_0 rfl 4 (by decide) (hts _ mw_1067) rfl d_Mo_call_97 (fun z149 hz149 => ?_)
          refine sn_iconst hx hb d_Mo_call_100 (by decide) (fun z150 hz150 => ?_)
          refine sn_iadd hx hb d_Mo_call_101 (by omega) (by omega) (fun z151 hz151 => ?_)
          refine sn_imulL (k := 15) hx hb d_Mo_call_102 (by omega) (by omega) (by omega) (fun z152 hz152 => ?_)
          refine lv_iload_n hx hb d_Mo_call_103 rfl (lv_at hl 4 rfl) ?_
          refine sn_iadd hx hb d_Mo_call_104 (by omega) (by omega) (fun z153 hz153 => ?_)
          refine lv_iload_n hx hb d_Mo_call_105 rfl (lv_at hl 4 rfl) ?_
          refine sn_iconst hx hb d_Mo_call_106 (by decide) (fun z154 hz154 => ?_)
          refine sn_iadd hx hb d_Mo_call_107 (by omega) (by omega) (fun z155 hz155 => ?_)
          refine lv_aload_n hx hb d_Mo_call_108 rfl (lv_at hl 1 rfl) ?_
          refine sv_gete (C := "StoryMachineModel") (T := T_Mo) (N := 51) hx hb hts in_Mo hown hK hI 0 kM_0 rfl 38 (by decide) (hts _ mw_1101) rfl d_Mo_call_109 (fun z156 hz156 => ?_)
          refine sn_icmp_ge (tgt := 126) hx hb d_Mo_call_112 (by decide) (fun b157 => ?_) (fun b157 => ?_)
          · refine lv_iload hx hb d_Mo_call_126 (lv_at hl 0 rfl) ?_
            refine sv_iastr hx hb hK (sh_in adM_map hAC) hI 7 kM_7 (by omega) (by omega) (by omega) (by omega) pM_7 d_Mo_call_128 (fun H locs hI => ?_)
            refine sn_iinc (k := 4) hx hb d_Mo_call_129 hl rfl (by decide) (by decide) (by omega) (by omega) (fun ls z158 hz158 hl => ?_)
            have hl : lv_has ls 5 [(3, .int z158), (4, .int z141), (0, .ref (a 0)), (1, .int v70z_1), (2, .int v70z_2)] := hl
            refine lv_goto (tgt := 70) hx hb d_Mo_call_132 (by decide) ?_
            exact j70p 15 _ _ _ v70z_1 v70z_2 z158 z141 t_tr142 hI c143 (by omega) (by omega) (by omega) (by omega) (by omega) (by omega) (by omega) (by omega) (by omega) (by omega) (by omega) (by omega) (lv_sub hl [2, 3, 4, 0, 1] rfl) (by omega)
          · refine lv_aload_n hx hb d_Mo_call_115 rfl (lv_at hl 1 rfl) ?_
            refine sv_getr (C := "StoryMachineModel") (T := T_Mo) (N := 51) hx hb hts in_Mo hown hK hI 0 kM_0 rfl 39 (by decide) (hts _ mw_1102) rfl d_Mo_call_116 ?_
            refine lv_iload_n hx hb d_Mo_call_119 rfl (lv_at hl 4 rfl) ?_
            refine sn_iconst hx hb d_Mo_call_120 (by decide) (fun z159 hz159 => ?_)
            refine sn_iadd hx hb d_Mo_call_121 (by omega) (by omega) (fun z160 hz160 => ?_)
            refine sv_ialdr hx hb hK hI 18 kM_18 (by omega) (by omega) d_Mo_call_122 (fun z161 hz161a hz161b => ?_)
            refine lv_goto (tgt := 128) hx hb d_Mo_call_123 (by decide) ?_
            refine sv_iastr hx hb hK (sh_in adM_map hAC) hI 7 kM_7 (by omega) (by omega) (by omega) (by omega) pM_7 d_Mo_call_128 (fun H locs hI => ?_)
            refine sn_iinc (k := 4) hx hb d_Mo_call_129 hl rfl (by decide) (by decide) (by omega) (by omega) (fun ls z162 hz162 hl => ?_)
            have hl : lv_has ls 5 [(3, .int z162), (4, .int z141), (0, .ref (a 0)), (1, .int v70z_1), (2, .int v70z_2)] := hl
            refine lv_goto (tgt := 70) hx hb d_Mo_call_132 (by decide) ?_
            exact j70p 15 _ _ _ v70z_1 v70z_2 z162 z141 t_tr142 hI c143 (by omega) (by omega) (by omega) (by omega) (by omega) (by omega) (by omega) (by omega) (by omega) (by omega) (by omega) (by omega) (lv_sub hl [2, 3, 4, 0, 1] rfl) (by omega)
        · cases hv
          have hI : sI (dC, dI) vcl cI cJ (gsM a th tr dp zi co sh lt ts mf) A s.heap H1 locs1 := ⟨by rw [← ht]; exact hI1, hS⟩
          clear hpost hI1 hS ht hWt
          revert hI; generalize H1 = H; generalize locs1 = locs; intro hI
          refine lv_istore (lv' := [(4, .int z144), (0, .ref (a 0)), (1, .int v70z_1), (2, .int v70z_2), (3, .int v70z_3)]) hx hb d_Mo_call_88 hl (by decide) rfl (fun ls hl => ?_)
          refine lv_aload_n hx hb d_Mo_call_90 rfl (lv_at hl 1 rfl) ?_
          refine sv_getr (C := "StoryMachineModel") (T := T_Mo) (N := 51) hx hb hts in_Mo hown hK hI 0 kM_0 rfl 9 (by decide) (hts _ mw_1072) rfl d_Mo_call_91 ?_
          refine sn_bipush hx hb d_Mo_call_94 (by decide) (fun z163 hz163 => ?_)
          refine lv_aload_n hx hb d_Mo_call_96 rfl (lv_at hl 1 rfl) ?_
          refine sv_gete (C := "StoryMachineModel") (T := T_Mo) (N := 51) hx hb hts in_Mo hown hK hI 0 kM_0 rfl 4 (by decide) (hts _ mw_1067) rfl d_Mo_call_97 (fun z164 hz164 => ?_)
          refine sn_iconst hx hb d_Mo_call_100 (by decide) (fun z165 hz165 => ?_)
          refine sn_iadd hx hb d_Mo_call_101 (by omega) (by omega) (fun z166 hz166 => ?_)
          refine sn_imulL (k := 15) hx hb d_Mo_call_102 (by omega) (by omega) (by omega) (fun z167 hz167 => ?_)
          refine lv_iload_n hx hb d_Mo_call_103 rfl (lv_at hl 4 rfl) ?_
          refine sn_iadd hx hb d_Mo_call_104 (by omega) (by omega) (fun z168 hz168 => ?_)
          refine lv_iload_n hx hb d_Mo_call_105 rfl (lv_at hl 4 rfl) ?_
          refine sn_iconst hx hb d_Mo_call_106 (by decide) (fun z169 hz169 => ?_)
          refine sn_iadd hx hb d_Mo_call_107 (by omega) (by omega) (fun z170 hz170 => ?_)
          refine lv_aload_n hx hb d_Mo_call_108 rfl (lv_at hl 1 rfl) ?_
          refine sv_gete (C := "StoryMachineModel") (T := T_Mo) (N := 51) hx hb hts in_Mo hown hK hI 0 kM_0 rfl 38 (by decide) (hts _ mw_1101) rfl d_Mo_call_109 (fun z171 hz171 => ?_)
          refine sn_icmp_ge (tgt := 126) hx hb d_Mo_call_112 (by decide) (fun b172 => ?_) (fun b172 => ?_)
          · refine lv_iload hx hb d_Mo_call_126 (lv_at hl 0 rfl) ?_
            refine sv_iastr hx hb hK (sh_in adM_map hAC) hI 7 kM_7 (by omega) (by omega) (by omega) (by omega) pM_7 d_Mo_call_128 (fun H locs hI => ?_)
            refine sn_iinc (k := 4) hx hb d_Mo_call_129 hl rfl (by decide) (by decide) (by omega) (by omega) (fun ls z173 hz173 hl => ?_)
            have hl : lv_has ls 5 [(3, .int z173), (4, .int z144), (0, .ref (a 0)), (1, .int v70z_1), (2, .int v70z_2)] := hl
            refine lv_goto (tgt := 70) hx hb d_Mo_call_132 (by decide) ?_
            exact ih _ _ _ v70z_1 v70z_2 z173 hI c145 (by omega) (by omega) (by omega) (by omega) (by omega) (by omega) (by omega) (by omega) (lv_sub hl [2, 3, 4, 0] rfl) (by omega)
          · refine lv_aload_n hx hb d_Mo_call_115 rfl (lv_at hl 1 rfl) ?_
            refine sv_getr (C := "StoryMachineModel") (T := T_Mo) (N := 51) hx hb hts in_Mo hown hK hI 0 kM_0 rfl 39 (by decide) (hts _ mw_1102) rfl d_Mo_call_116 ?_
            refine lv_iload_n hx hb d_Mo_call_119 rfl (lv_at hl 4 rfl) ?_
            refine sn_iconst hx hb d_Mo_call_120 (by decide) (fun z174 hz174 => ?_)
            refine sn_iadd hx hb d_Mo_call_121 (by omega) (by omega) (fun z175 hz175 => ?_)
            refine sv_ialdr hx hb hK hI 18 kM_18 (by omega) (by omega) d_Mo_call_122 (fun z176 hz176a hz176b => ?_)
            refine lv_goto (tgt := 128) hx hb d_Mo_call_123 (by decide) ?_
            refine sv_iastr hx hb hK (sh_in adM_map hAC) hI 7 kM_7 (by omega) (by omega) (by omega) (by omega) pM_7 d_Mo_call_128 (fun H locs hI => ?_)
            refine sn_iinc (k := 4) hx hb d_Mo_call_129 hl rfl (by decide) (by decide) (by omega) (by omega) (fun ls z177 hz177 hl => ?_)
            have hl : lv_has ls 5 [(3, .int z177), (4, .int z144), (0, .ref (a 0)), (1, .int v70z_1), (2, .int v70z_2)] := hl
            refine lv_goto (tgt := 70) hx hb d_Mo_call_132 (by decide) ?_
            exact ih _ _ _ v70z_1 v70z_2 z177 hI c145 (by omega) (by omega) (by omega) (by omega) (by omega) (by omega) (by omega) (by omega) (lv_sub hl [2, 3, 4, 0] rfl) (by omega)
  refine lv_aload_n hx hb d_Mo_call_0 rfl (lv_at hl 0 rfl) ?_
  refine sv_getr (C := "StoryMachineModel") (T := T_Mo) (N := 51) hx hb hts in_Mo hown hK hI 0 kM_0 rfl 39 (by decide) (hts _ mw_1102) rfl d_Mo_call_1 ?_
  refine sn_iconst hx hb d_Mo_call_4 (by decide) (fun z178 hz178 => ?_)
  refine sv_ialdr hx hb hK hI 18 kM_18 (by omega) (by omega) d_Mo_call_5 (fun z179 hz179a hz179b => ?_)
  refine lv_istore_n (lv' := [(1, .int z179), (0, .ref (a 0))]) hx hb d_Mo_call_6 rfl hl (by decide) rfl (fun ls hl => ?_)
  refine lv_iload_n hx hb d_Mo_call_7 rfl (lv_at hl 0 rfl) ?_
  refine sn_if_ne (tgt := 17) hx hb d_Mo_call_8 (by decide) (fun b180 => ?_) (fun b180 => ?_)
  · refine lv_aload_n hx hb d_Mo_call_17 rfl (lv_at hl 1 rfl) ?_
    refine lv_aload_n hx hb d_Mo_call_18 rfl (lv_at hl 1 rfl) ?_
    refine sv_gete (C := "StoryMachineModel") (T := T_Mo) (N := 51) hx hb hts in_Mo hown hK hI 0 kM_0 rfl 4 (by decide) (hts _ mw_1067) rfl d_Mo_call_19 (fun z181 hz181 => ?_)
    refine sn_bipush hx hb d_Mo_call_22 (by decide) (fun z182 hz182 => ?_)
    refine sn_icmp_ge (tgt := 31) hx hb d_Mo_call_24 (by decide) (fun b183 => ?_) (fun b183 => ?_)
    · refine sn_iconst hx hb d_Mo_call_31 (by decide) (fun z184 hz184 => ?_)
      refine sn_iconst hx hb d_Mo_call_32 (by decide) (fun z185 hz185 => ?_)
      refine tz_call (A1 := ga (adM a) H.size) (tz_runV (C := "StoryMachineModel") (As := [.int z184, .int z185]) (rest := []) ⟨hx, hb, hml, hown, hts⟩ (c_Mo_good l hfl dC dI cI cJ a H.size th tr dp zi co sh lt ts mf z184 z185 hok (by omega) (by omega) (by omega) (by omega)) (tx_cb (n := 2) hts rfl rfl ⟨Nat.le_of_ble_eq_true rfl, Nat.le_of_ble_eq_true rfl⟩ (tx_code.of (hts _ mw_1240)) (hts _ mw_12) (by decide +kernel) (hts _ mw_1237)) (hts _ mw_1239) (hts _ ms_Mo_good) ⟨tz_blind, sv_recv (q0 := 0) hts in_Mo hK hI kM_0 rfl, fun U hU hW => ⟨rfl, by rw [hU], by rw [hU]; exact hI.1, va_K.moved hW.alike hK, hst _ _ hI.2 U hU hW⟩⟩ rfl rfl hl.1 rfl (lv_room (Nat.le_of_ble_eq_true rfl)) d_Mo_call_33 ⟨Nat.le_of_ble_eq_true rfl, Nat.le_of_ble_eq_true rfl⟩) hI.2 (fun q _ h => ga_sub hAC hA0 hI.2 q h) (ga_sub hAC hA0 hI.2) (fun v t H1 locs1 ht hWt hpost _ _ hS => ?_) (fun x t H1 locs1 ht hWt hpost _ _ hS => (hpost.2 x rfl).elim)
      rcases hpost.1 _ rfl with ⟨z186, t_tr187, hv, c188, c188_0, c188_1, c188_2, c188_3, hI1⟩ | ⟨z189, hv, c190, c190_0, c190_1, c190_2, c190_3, hI1⟩
      · cases hv
        have hI : sI (dC, dI) vcl cI cJ (gsM a th t_tr187 dp zi co sh lt ts mf) A s.heap H1 locs1 := ⟨by rw [← ht]; exact hI1, hS⟩
        obtain ⟨-, ⟨o191, o192⟩, -, -, -, -, -, -, -⟩ := id c188
        clear hpost hI1 hS ht hWt
        revert hI; generalize H1 = H; generalize locs1 = locs; intro hI
        refine sn_if_ne (tgt := 40) hx hb d_Mo_call_36 (by decide) (fun b193 => ?_) (fun b193 => ?_)
        · omega
        · subst hZ
          exact tz_ret (W.vret hx hb hr (fun t ht hW => ⟨⟨fun v9 hv9 => by cases hv9; exact (Or.inl ⟨t_tr187, rfl, c188, by omega, by rw [ht]; exact hI.1⟩), fun x9 hx9 => (by cases hx9)⟩, hI.2.F ht⟩) hI.2.2.2 d_Mo_call_39)
      · omega
    · refine sn_iconst hx hb d_Mo_call_27 (by decide) (fun z194 hz194 => ?_)
      refine lv_goto (tgt := 32) hx hb d_Mo_call_28 (by decide) ?_
      refine sn_iconst hx hb d_Mo_call_32 (by decide) (fun z195 hz195 => ?_)
      refine tz_call (A1 := ga (adM a) H.size) (tz_runV (C := "StoryMachineModel") (As := [.int z194, .int z195]) (rest := []) ⟨hx, hb, hml, hown, hts⟩ (c_Mo_good l hfl dC dI cI cJ a H.size th tr dp zi co sh lt ts mf z194 z195 hok (by omega) (by omega) (by omega) (by omega)) (tx_cb (n := 2) hts rfl rfl ⟨Nat.le_of_ble_eq_true rfl, Nat.le_of_ble_eq_true rfl⟩ (tx_code.of (hts _ mw_1240)) (hts _ mw_12) (by decide +kernel) (hts _ mw_1237)) (hts _ mw_1239) (hts _ ms_Mo_good) ⟨tz_blind, sv_recv (q0 := 0) hts in_Mo hK hI kM_0 rfl, fun U hU hW => ⟨rfl, by rw [hU], by rw [hU]; exact hI.1, va_K.moved hW.alike hK, hst _ _ hI.2 U hU hW⟩⟩ rfl rfl hl.1 rfl (lv_room (Nat.le_of_ble_eq_true rfl)) d_Mo_call_33 ⟨Nat.le_of_ble_eq_true rfl, Nat.le_of_ble_eq_true rfl⟩) hI.2 (fun q _ h => ga_sub hAC hA0 hI.2 q h) (ga_sub hAC hA0 hI.2) (fun v t H1 locs1 ht hWt hpost _ _ hS => ?_) (fun x t H1 locs1 ht hWt hpost _ _ hS => (hpost.2 x rfl).elim)
      rcases hpost.1 _ rfl with ⟨z196, t_tr197, hv, c198, c198_0, c198_1, c198_2, c198_3, hI1⟩ | ⟨z199, hv, c200, c200_0, c200_1, c200_2, c200_3, hI1⟩
      · cases hv
        have hI : sI (dC, dI) vcl cI cJ (gsM a th t_tr197 dp zi co sh lt ts mf) A s.heap H1 locs1 := ⟨by rw [← ht]; exact hI1, hS⟩
        obtain ⟨-, ⟨o201, o202⟩, -, -, -, -, -, -, -⟩ := id c198
        clear hpost hI1 hS ht hWt
        revert hI; generalize H1 = H; generalize locs1 = locs; intro hI
        refine sn_if_ne (tgt := 40) hx hb d_Mo_call_36 (by decide) (fun b203 => ?_) (fun b203 => ?_)
        · omega
        · subst hZ
          exact tz_ret (W.vret hx hb hr (fun t ht hW => ⟨⟨fun v9 hv9 => by cases hv9; exact (Or.inl ⟨t_tr197, rfl, c198, by omega, by rw [ht]; exact hI.1⟩), fun x9 hx9 => (by cases hx9)⟩, hI.2.F ht⟩) hI.2.2.2 d_Mo_call_39)
      · cases hv
        have hI : sI (dC, dI) vcl cI cJ (gsM a th tr dp zi co sh lt ts mf) A s.heap H1 locs1 := ⟨by rw [← ht]; exact hI1, hS⟩
        clear hpost hI1 hS ht hWt
        revert hI; generalize H1 = H; generalize locs1 = locs; intro hI
        refine sn_if_ne (tgt := 40) hx hb d_Mo_call_36 (by decide) (fun b204 => ?_) (fun b204 => ?_)
        · refine lv_aload_n hx hb d_Mo_call_40 rfl (lv_at hl 1 rfl) ?_
          refine sn_iconst hx hb d_Mo_call_41 (by decide) (fun z205 hz205 => ?_)
          refine lv_iload_n hx hb d_Mo_call_42 rfl (lv_at hl 0 rfl) ?_
          refine sn_imulL (k := 2) hx hb d_Mo_call_43 (by omega) (by omega) (by omega) (fun z206 hz206 => ?_)
          refine tz_call (A1 := ga (adM a) H.size) (tz_runV (C := "StoryMachineModel") (As := [.int z206]) (rest := []) ⟨hx, hb, hml, hown, hts⟩ (c_Mo_byteAt l hfl dC dI cI cJ a H.size th tr dp zi co sh lt ts mf z206 c200) (tx_cb (n := 1) hts rfl rfl ⟨Nat.le_of_ble_eq_true rfl, Nat.le_of_ble_eq_true rfl⟩ (tx_code.of (hts _ mw_1236)) (hts _ mw_12) (by decide +kernel) (hts _ mw_1233)) (hts _ mw_1235) (hts _ ms_Mo_byteAt) ⟨tz_blind, sv_recv (q0 := 0) hts in_Mo hK hI kM_0 rfl, fun U hU hW => ⟨rfl, by rw [hU], by rw [hU]; exact hI.1, va_K.moved hW.alike hK, hst _ _ hI.2 U hU hW⟩⟩ rfl rfl hl.1 rfl (lv_room (Nat.le_of_ble_eq_true rfl)) d_Mo_call_44 ⟨Nat.le_of_ble_eq_true rfl, Nat.le_of_ble_eq_true rfl⟩) hI.2 (fun q _ h => ga_sub hAC hA0 hI.2 q h) (ga_sub hAC hA0 hI.2) (fun v t H1 locs1 ht hWt hpost _ _ hS => ?_) (fun x t H1 locs1 ht hWt hpost _ _ hS => (hpost.2 x rfl).elim)
          rcases hpost.1 _ rfl with ⟨z207, t_tr208, hv, c209, c209_0, c209_1, c209_2, hI1⟩ | ⟨z210, hv, c211, c211_0, c211_1, c211_2, c211_3, c211_4, hI1⟩
          · cases hv
            have hI : sI (dC, dI) vcl cI cJ (gsM a th t_tr208 dp zi co sh lt ts mf) A s.heap H1 locs1 := ⟨by rw [← ht]; exact hI1, hS⟩
            obtain ⟨-, ⟨o212, o213⟩, -, -, -, -, -, -, -⟩ := id c209
            clear hpost hI1 hS ht hWt
            revert hI; generalize H1 = H; generalize locs1 = locs; intro hI
            refine lv_istore_n (lv' := [(2, .int z207), (1, .int z179), (0, .ref (a 0))]) hx hb d_Mo_call_47 rfl hl (by decide) rfl (fun ls hl => ?_)
            refine lv_aload_n hx hb d_Mo_call_48 rfl (lv_at hl 2 rfl) ?_
            refine lv_iload_n hx hb d_Mo_call_49 rfl (lv_at hl 0 rfl) ?_
            refine sn_bipush hx hb d_Mo_call_50 (by decide) (fun z214 hz214 => ?_)
            refine sn_icmp_ge (tgt := 59) hx hb d_Mo_call_52 (by decide) (fun b215 => ?_) (fun b215 => ?_)
            · omega
            · refine sn_iconst hx hb d_Mo_call_55 (by decide) (fun z216 hz216 => ?_)
              refine lv_goto (tgt := 60) hx hb d_Mo_call_56 (by decide) ?_
              refine sn_iconst hx hb d_Mo_call_60 (by decide) (fun z217 hz217 => ?_)
              refine tz_call (A1 := ga (adM a) H.size) (tz_runV (C := "StoryMachineModel") (As := [.int z216, .int z217]) (rest := []) ⟨hx, hb, hml, hown, hts⟩ (c_Mo_good l hfl dC dI cI cJ a H.size th t_tr208 dp zi co sh lt ts mf z216 z217 c209 (by omega) (by omega) (by omega) (by omega)) (tx_cb (n := 2) hts rfl rfl ⟨Nat.le_of_ble_eq_true rfl, Nat.le_of_ble_eq_true rfl⟩ (tx_code.of (hts _ mw_1240)) (hts _ mw_12) (by decide +kernel) (hts _ mw_1237)) (hts _ mw_1239) (hts _ ms_Mo_good) ⟨tz_blind, sv_recv (q0 := 0) hts in_Mo hK hI kM_0 rfl, fun U hU hW => ⟨rfl, by rw [hU], by rw [hU]; exact hI.1, va_K.moved hW.alike hK, hst _ _ hI.2 U hU hW⟩⟩ rfl rfl hl.1 rfl (lv_room (Nat.le_of_ble_eq_true rfl)) d_Mo_call_61 ⟨Nat.le_of_ble_eq_true rfl, Nat.le_of_ble_eq_true rfl⟩) hI.2 (fun q _ h => ga_sub hAC hA0 hI.2 q h) (ga_sub hAC hA0 hI.2) (fun v t H1 locs1 ht hWt hpost _ _ hS => ?_) (fun x t H1 locs1 ht hWt hpost _ _ hS => (hpost.2 x rfl).elim)
              rcases hpost.1 _ rfl with ⟨z218, t_tr219, hv, c220, c220_0, c220_1, c220_2, c220_3, hI1⟩ | ⟨z221, hv, c222, c222_0, c222_1, c222_2, c222_3, hI1⟩
              · cases hv
                have hI : sI (dC, dI) vcl cI cJ (gsM a th t_tr219 dp zi co sh lt ts mf) A s.heap H1 locs1 := ⟨by rw [← ht]; exact hI1, hS⟩
                obtain ⟨-, ⟨o223, o224⟩, -, -, -, -, -, -, -⟩ := id c220
                clear hpost hI1 hS ht hWt
                revert hI; generalize H1 = H; generalize locs1 = locs; intro hI
                refine sn_if_ne (tgt := 68) hx hb d_Mo_call_64 (by decide) (fun b225 => ?_) (fun b225 => ?_)
                · omega
                · subst hZ
                  exact tz_ret (W.vret hx hb hr (fun t ht hW => ⟨⟨fun v9 hv9 => by cases hv9; exact (Or.inl ⟨t_tr219, rfl, c220, by omega, by rw [ht]; exact hI.1⟩), fun x9 hx9 => (by cases hx9)⟩, hI.2.F ht⟩) hI.2.2.2 d_Mo_call_67)
              · omega
          · cases hv
            have hI : sI (dC, dI) vcl cI cJ (gsM a th tr dp zi co sh lt ts mf) A s.heap H1 locs1 := ⟨by rw [← ht]; exact hI1, hS⟩
            clear hpost hI1 hS ht hWt
            revert hI; generalize H1 = H; generalize locs1 = locs; intro hI
            refine lv_istore_n (lv' := [(2, .int z210), (1, .int z179), (0, .ref (a 0))]) hx hb d_Mo_call_47 rfl hl (by decide) rfl (fun ls hl => ?_)
            refine lv_aload_n hx hb d_Mo_call_48 rfl (lv_at hl 2 rfl) ?_
            refine lv_iload_n hx hb d_Mo_call_49 rfl (lv_at hl 0 rfl) ?_
            refine sn_bipush hx hb d_Mo_call_50 (by decide) (fun z226 hz226 => ?_)
            refine sn_icmp_ge (tgt := 59) hx hb d_Mo_call_52 (by decide) (fun b227 => ?_) (fun b227 => ?_)
            · refine sn_iconst hx hb d_Mo_call_59 (by decide) (fun z228 hz228 => ?_)
              refine sn_iconst hx hb d_Mo_call_60 (by decide) (fun z229 hz229 => ?_)
              refine tz_call (A1 := ga (adM a) H.size) (tz_runV (C := "StoryMachineModel") (As := [.int z228, .int z229]) (rest := []) ⟨hx, hb, hml, hown, hts⟩ (c_Mo_good l hfl dC dI cI cJ a H.size th tr dp zi co sh lt ts mf z228 z229 c211 (by omega) (by omega) (by omega) (by omega)) (tx_cb (n := 2) hts rfl rfl ⟨Nat.le_of_ble_eq_true rfl, Nat.le_of_ble_eq_true rfl⟩ (tx_code.of (hts _ mw_1240)) (hts _ mw_12) (by decide +kernel) (hts _ mw_1237)) (hts _ mw_1239) (hts _ ms_Mo_good) ⟨tz_blind, sv_recv (q0 := 0) hts in_Mo hK hI kM_0 rfl, fun U hU hW => ⟨rfl, by rw [hU], by rw [hU]; exact hI.1, va_K.moved hW.alike hK, hst _ _ hI.2 U hU hW⟩⟩ rfl rfl hl.1 rfl (lv_room (Nat.le_of_ble_eq_true rfl)) d_Mo_call_61 ⟨Nat.le_of_ble_eq_true rfl, Nat.le_of_ble_eq_true rfl⟩) hI.2 (fun q _ h => ga_sub hAC hA0 hI.2 q h) (ga_sub hAC hA0 hI.2) (fun v t H1 locs1 ht hWt hpost _ _ hS => ?_) (fun x t H1 locs1 ht hWt hpost _ _ hS => (hpost.2 x rfl).elim)
              rcases hpost.1 _ rfl with ⟨z230, t_tr231, hv, c232, c232_0, c232_1, c232_2, c232_3, hI1⟩ | ⟨z233, hv, c234, c234_0, c234_1, c234_2, c234_3, hI1⟩
              · cases hv
                have hI : sI (dC, dI) vcl cI cJ (gsM a th t_tr231 dp zi co sh lt ts mf) A s.heap H1 locs1 := ⟨by rw [← ht]; exact hI1, hS⟩
                obtain ⟨-, ⟨o235, o236⟩, -, -, -, -, -, -, -⟩ := id c232
                clear hpost hI1 hS ht hWt
                revert hI; generalize H1 = H; generalize locs1 = locs; intro hI
                refine sn_if_ne (tgt := 68) hx hb d_Mo_call_64 (by decide) (fun b237 => ?_) (fun b237 => ?_)
                · omega
                · subst hZ
                  exact tz_ret (W.vret hx hb hr (fun t ht hW => ⟨⟨fun v9 hv9 => by cases hv9; exact (Or.inl ⟨t_tr231, rfl, c232, by omega, by rw [ht]; exact hI.1⟩), fun x9 hx9 => (by cases hx9)⟩, hI.2.F ht⟩) hI.2.2.2 d_Mo_call_67)
              · omega
            · refine sn_iconst hx hb d_Mo_call_55 (by decide) (fun z238 hz238 => ?_)
              refine lv_goto (tgt := 60) hx hb d_Mo_call_56 (by decide) ?_
              refine sn_iconst hx hb d_Mo_call_60 (by decide) (fun z239 hz239 => ?_)
              refine tz_call (A1 := ga (adM a) H.size) (tz_runV (C := "StoryMachineModel") (As := [.int z238, .int z239]) (rest := []) ⟨hx, hb, hml, hown, hts⟩ (c_Mo_good l hfl dC dI cI cJ a H.size th tr dp zi co sh lt ts mf z238 z239 c211 (by omega) (by omega) (by omega) (by omega)) (tx_cb (n := 2) hts rfl rfl ⟨Nat.le_of_ble_eq_true rfl, Nat.le_of_ble_eq_true rfl⟩ (tx_code.of (hts _ mw_1240)) (hts _ mw_12) (by decide +kernel) (hts _ mw_1237)) (hts _ mw_1239) (hts _ ms_Mo_good) ⟨tz_blind, sv_recv (q0 := 0) hts in_Mo hK hI kM_0 rfl, fun U hU hW => ⟨rfl, by rw [hU], by rw [hU]; exact hI.1, va_K.moved hW.alike hK, hst _ _ hI.2 U hU hW⟩⟩ rfl rfl hl.1 rfl (lv_room (Nat.le_of_ble_eq_true rfl)) d_Mo_call_61 ⟨Nat.le_of_ble_eq_true rfl, Nat.le_of_ble_eq_true rfl⟩) hI.2 (fun q _ h => ga_sub hAC hA0 hI.2 q h) (ga_sub hAC hA0 hI.2) (fun v t H1 locs1 ht hWt hpost _ _ hS => ?_) (fun x t H1 locs1 ht hWt hpost _ _ hS => (hpost.2 x rfl).elim)
              rcases hpost.1 _ rfl with ⟨z240, t_tr241, hv, c242, c242_0, c242_1, c242_2, c242_3, hI1⟩ | ⟨z243, hv, c244, c244_0, c244_1, c244_2, c244_3, hI1⟩
              · cases hv
                have hI : sI (dC, dI) vcl cI cJ (gsM a th t_tr241 dp zi co sh lt ts mf) A s.heap H1 locs1 := ⟨by rw [← ht]; exact hI1, hS⟩
                obtain ⟨-, ⟨o245, o246⟩, -, -, -, -, -, -, -⟩ := id c242
                clear hpost hI1 hS ht hWt
                revert hI; generalize H1 = H; generalize locs1 = locs; intro hI
                refine sn_if_ne (tgt := 68) hx hb d_Mo_call_64 (by decide) (fun b247 => ?_) (fun b247 => ?_)
                · omega
                · subst hZ
                  exact tz_ret (W.vret hx hb hr (fun t ht hW => ⟨⟨fun v9 hv9 => by cases hv9; exact (Or.inl ⟨t_tr241, rfl, c242, by omega, by rw [ht]; exact hI.1⟩), fun x9 hx9 => (by cases hx9)⟩, hI.2.F ht⟩) hI.2.2.2 d_Mo_call_67)
              · cases hv
                have hI : sI (dC, dI) vcl cI cJ (gsM a th tr dp zi co sh lt ts mf) A s.heap H1 locs1 := ⟨by rw [← ht]; exact hI1, hS⟩
                clear hpost hI1 hS ht hWt
                revert hI; generalize H1 = H; generalize locs1 = locs; intro hI
                refine sn_if_ne (tgt := 68) hx hb d_Mo_call_64 (by decide) (fun b248 => ?_) (fun b248 => ?_)
                · refine sn_iconst hx hb d_Mo_call_68 (by decide) (fun z249 hz249 => ?_)
                  refine lv_istore_n (lv' := [(3, .int z249), (2, .int z210), (1, .int z179), (0, .ref (a 0))]) hx hb d_Mo_call_69 rfl hl (by decide) rfl (fun ls hl => ?_)
                  exact j70z 16 _ _ _ z179 z210 z249 hI c244 (by omega) (by omega) (by omega) (by omega) (by omega) (by omega) (by omega) (by omega) (lv_sub hl [3, 2, 1, 0] rfl) (by omega)
                · omega
        · omega
  · refine lv_aload_n hx hb d_Mo_call_11 rfl (lv_at hl 1 rfl) ?_
    refine sn_iconst hx hb d_Mo_call_12 (by decide) (fun z250 hz250 => ?_)
    refine tz_call (A1 := ga (adM a) H.size) (tz_runV (C := "StoryMachineModel") (As := [.int z250]) (rest := []) ⟨hx, hb, hml, hown, hts⟩ (c_Mo_give l hfl dC dI cI cJ a H.size th tr dp zi co sh lt ts mf z250 hok) (tx_cb (n := 1) hts rfl rfl ⟨Nat.le_of_ble_eq_true rfl, Nat.le_of_ble_eq_true rfl⟩ (tx_code.of (hts _ mw_1333)) (hts _ mw_12) (by decide +kernel) (hts _ mw_1330)) (hts _ mw_1332) (hts _ ms_Mo_give) ⟨tz_blind, sv_recv (q0 := 0) hts in_Mo hK hI kM_0 rfl, fun U hU hW => ⟨rfl, by rw [hU], by rw [hU]; exact hI.1, va_K.moved hW.alike hK, hst _ _ hI.2 U hU hW⟩⟩ rfl rfl hl.1 rfl (lv_room (Nat.le_of_ble_eq_true rfl)) d_Mo_call_13 ⟨Nat.le_of_ble_eq_true rfl, Nat.le_of_ble_eq_true rfl⟩) hI.2 (fun q _ h => ga_sub hAC hA0 hI.2 q h) (ga_sub hAC hA0 hI.2) (fun v t H1 locs1 ht hWt hpost _ _ hS => ?_) (fun x t H1 locs1 ht hWt hpost _ _ hS => (hpost.2 x rfl).elim)
    rcases hpost.1 _ rfl with ⟨t_tr251, hv, c252, c252_0, hI1⟩ | ⟨t_zi253, f_mf254, hv, c255, c255_0, hI1⟩
    · cases hv
      have hI : sI (dC, dI) vcl cI cJ (gsM a th t_tr251 dp zi co sh lt ts mf) A s.heap H1 locs1 := ⟨by rw [← ht]; exact hI1, hS⟩
      obtain ⟨-, ⟨o256, o257⟩, -, -, -, -, -, -, -⟩ := id c252
      clear hpost hI1 hS ht hWt
      revert hI; generalize H1 = H; generalize locs1 = locs; intro hI
      subst hZ
      exact tz_ret (W.vret hx hb hr (fun t ht hW => ⟨⟨fun v9 hv9 => by cases hv9; exact (Or.inl ⟨t_tr251, rfl, c252, by omega, by rw [ht]; exact hI.1⟩), fun x9 hx9 => (by cases hx9)⟩, hI.2.F ht⟩) hI.2.2.2 d_Mo_call_16)
    · cases hv
      have hI : sI (dC, dI) vcl cI cJ (gsM a th tr dp t_zi253 co sh lt ts f_mf254) A s.heap H1 locs1 := ⟨by rw [← ht]; exact hI1, hS⟩
      obtain ⟨-, -, -, ⟨o258, o259⟩, -, -, -, -, -⟩ := id c255
      clear hpost hI1 hS ht hWt
      revert hI; generalize H1 = H; generalize locs1 = locs; intro hI
      subst hZ
      exact tz_ret (W.vret hx hb hr (fun t ht hW => ⟨⟨fun v9 hv9 => by cases hv9; exact (Or.inr (⟨dp, t_zi253, f_mf254, rfl, c255, by omega, by rw [ht]; exact hI.1⟩)), fun x9 hx9 => (by cases hx9)⟩, hI.2.F ht⟩) hI.2.2.2 d_Mo_call_16)
