abbrev q_Mo_type (dC : Nat → ClassId) (dI : Nat → Nat → Nat) (cI cJ : ClassId) (a : Nat → Nat) (th tr dp zi co sh lt ts : Int) (mf : Nat → Int32) (y1 : Int64) (x3 : Int32) : Outcome → State → Prop := fun o t => (∀ v, o = .returned v → ((∃ (th_ ts_ : Int), v = none ∧ okM th_ tr dp zi co sh lt ts_ mf ∧ sh_I (dC, dI) vcl cI cJ (gsM a th_ tr dp zi co sh lt ts_ mf) t.heap))) ∧ (∀ x, o = .threw x → (False))
def rm_Mo_type : Room := { frames := 1, cells := 0, slots := 0, locals := 20 }
set_option maxHeartbeats 4000000 in
set_option maxRecDepth 100000 in
theorem c_Mo_type (l : Launch) (hfl : l.flags = pinnedFlags ++ [noTraceFlag]) (dC : Nat → ClassId) (dI : Nat → Nat → Nat) (cI cJ : ClassId) (a : Nat → Nat) (sz : Nat) (th tr dp zi co sh lt ts : Int) (mf : Nat → Int32) (y1 : Int64) (x3 : Int32) (hok : okM th tr dp zi co sh lt ts mf) : tz_Met l ⟨"StoryMachineModel", "type", "(JI)V"⟩ tw_tbl rm_Mo_type (tzP (dC, dI) vcl cI cJ (gsM a th tr dp zi co sh lt ts mf) a (adM a) [.ref (a 0), .long y1, .int x3] sz) (tq_Q (q_Mo_type dC dI cI cJ a th tr dp zi co sh lt ts mf y1 x3) (ga (adM a) sz)) 0 0 0 0 (ga (adM a) sz) := by
  refine tz_ofW (cc := prog_13_method_77_code) (maxL := 8) (ret := none) (by decide) (tx_isM mw_1516) ?_
  intro p e s m args below meth c s₁ B hml hv
  obtain ⟨rfl, hsz, hI0, hK, hst0⟩ := hv
  have hx := B.exec
  have hb := B.bytes
  have hr := B.returns
  have hts := atoms_spec (ws := tw_tbl) B.pre
  have hown : s.vm.findClass "StoryMachineModel" = some m.cls := findClass_of_methodNamed B.named
  have hlocks := B.notSynchronized
  subst hsz
  have hst := fun (H : Heap) (locs : List Loc) (hS : va_S (ga (adM a) s.heap.size) s.heap H locs) (U : State) (hU : U.heap = H) (hW : s.WarmedH U.vm) => zS_all adM_map hI0 hst0 hS hU hW
  have hAC : ∀ q ∈ adM a, ga (adM a) s.heap.size q := fun q h => Or.inl h
  have hA0 : ∀ q, s.heap.size ≤ q → ga (adM a) s.heap.size q := fun q h => Or.inr h
  have hI : sI (dC, dI) vcl cI cJ (gsM a th tr dp zi co sh lt ts mf) (ga (adM a) s.heap.size) s.heap s.heap [] := ⟨hI0, va_S.rf⟩
  clear hI0 hst0
  have hl := lv_entry ([.ref (a 0), .long y1, .int x3]) (n := 8) (Nat.le_of_ble_eq_true rfl)
  rw [lg_entry_eq]
  generalize (lg_sl ([.ref (a 0), .long y1, .int x3]) ++ List.replicate (8 - (lg_sl ([.ref (a 0), .long y1, .int x3])).length) Slot.unset).toArray = ls at hl ⊢
  have hl : lv_has ls 8 [(0, .ref (a 0)), (1, .long y1), (3, .int x3)] := hl
  generalize hZ : tz_MQ below (tq_Q (q_Mo_type dC dI cI cJ a th tr dp zi co sh lt ts mf y1 x3) (ga (adM a) s.heap.size)) ([.ref (a 0), .long y1, .int x3] : List Value).toArray s 0 0 0 0 (ga (adM a) s.heap.size) = Z
  obtain ⟨A, hAe⟩ : ∃ A, A = ga (adM a) s.heap.size := ⟨_, rfl⟩
  rw [← hAe] at hst hAC hA0 hI hZ
  refine sv_start hI (fun H locs hI => ?_)
  obtain ⟨⟨o1, o2⟩, ⟨o3, o4⟩, ⟨o5, o6⟩, ⟨o7, o8⟩, ⟨o9, o10⟩, ⟨o11, o12⟩, ⟨o13, o14⟩, ⟨o15, o16⟩, -⟩ := id hok
  have gx3 := sn_rng x3
  have j98z : ∀ (n : Nat) (H : Heap) (locs : List Loc) (ls : Array Slot) (v98z_4 v98z_5 : Int32) (v98z_1 : Int64) (t98z_th t98z_ts : Int), sI (dC, dI) vcl cI cJ (gsM a t98z_th tr dp zi co sh lt t98z_ts mf) A s.heap H locs → okM t98z_th tr dp zi co sh lt t98z_ts mf → 1 ≤ v98z_4.toInt → v98z_4.toInt ≤ 1 → (-2147483648) ≤ v98z_5.toInt → v98z_5.toInt ≤ 2147483646 → 0 ≤ t98z_th → t98z_th ≤ 0 → t98z_ts + v98z_5.toInt + 1 ≤ 24 → lv_has ls 8 [(0, .ref (a 0)), (1, .long v98z_1), (3, .int x3), (4, .int v98z_4), (5, .int v98z_5)] → v98z_5.toInt - (-2147483648) < (n : Int) → W p l e (headSpec tw_tbl rm_Mo_type).room s m ([.ref (a 0), .long y1, .int x3] : List Value).toArray below meth c H locs 0 0 Z (F0 m 98 ls []) := by
    intro n
    induction n with
    | zero => intro H locs ls v98z_4 v98z_5 v98z_1 t98z_th t98z_ts hI hok g98_0 g98_1 g98_2 g98_3 g98_4 g98_5 g98_6 hl hme; exfalso; obtain ⟨⟨o17, o18⟩, ⟨o19, o20⟩, ⟨o21, o22⟩, ⟨o23, o24⟩, ⟨o25, o26⟩, ⟨o27, o28⟩, ⟨o29, o30⟩, ⟨o31, o32⟩, -⟩ := id hok; omega
    | succ n ih =>
      intro H locs ls v98z_4 v98z_5 v98z_1 t98z_th t98z_ts hI hok g98_0 g98_1 g98_2 g98_3 g98_4 g98_5 g98_6 hl hme
      obtain ⟨⟨o33, o34⟩, ⟨o35, o36⟩, ⟨o37, o38⟩, ⟨o39, o40⟩, ⟨o41, o42⟩, ⟨o43, o44⟩, ⟨o45, o46⟩, ⟨o47, o48⟩, -⟩ := id hok
      refine lv_iload hx hb d_Mo_type_98 (lv_at hl 4 rfl) ?_
      refine sn_if_lt (tgt := 147) hx hb d_Mo_type_100 (by decide) (fun b49 => ?_) (fun b49 => ?_)
      · subst hZ
        exact tz_ret (W.vret hx hb hr (fun t ht hW => ⟨⟨fun v9 hv9 => by cases hv9; exact (⟨t98z_th, t98z_ts, rfl, hok, by rw [ht]; exact hI.1⟩), fun x9 hx9 => (by cases hx9)⟩, hI.2.F ht⟩) hI.2.2.2 d_Mo_type_147)
      · refine lv_aload_n hx hb d_Mo_type_103 rfl (lv_at hl 0 rfl) ?_
        refine sv_gete (C := "StoryMachineModel") (T := T_Mo) (N := 51) hx hb hts in_Mo hown hK hI 0 kM_0 rfl 0 (by decide) (hts _ mw_1063) rfl d_Mo_type_104 (fun z50 hz50 => ?_)
        refine sn_if_ne (tgt := 147) hx hb d_Mo_type_107 (by decide) (fun b51 => ?_) (fun b51 => ?_)
        · omega
        · refine lv_aload_n hx hb d_Mo_type_110 rfl (lv_at hl 0 rfl) ?_
          refine sv_getr (C := "StoryMachineModel") (T := T_Mo) (N := 51) hx hb hts in_Mo hown hK hI 0 kM_0 rfl 35 (by decide) (hts _ mw_1098) rfl d_Mo_type_111 ?_
          refine lv_aload_n hx hb d_Mo_type_114 rfl (lv_at hl 0 rfl) ?_
          refine sv_gete (C := "StoryMachineModel") (T := T_Mo) (N := 51) hx hb hts in_Mo hown hK hI 0 kM_0 rfl 34 (by decide) (hts _ mw_1097) rfl d_Mo_type_115 (fun z52 hz52 => ?_)
          refine lv_lload_n hx hb d_Mo_type_118 rfl (lv_at hl 1 rfl) ?_
          refine sn_bipush hx hb d_Mo_type_119 (by decide) (fun z53 hz53 => ?_)
          refine lv_iload hx hb d_Mo_type_121 (lv_at hl 4 rfl) ?_
          refine sn_imulT hx hb d_Mo_type_123 (fun z54 hz54a hz54b => ?_)
          refine lv_lshr hx hb d_Mo_type_124 rfl ?_
          refine lv_topl (fun y55 hy55 => ?_)
          refine lv_ldc2 hx hb hown (hts _ mw_1504) d_Mo_type_125 ?_
          refine lv_topl (fun c255_56 hc255_56 => ?_)
          refine sn_land hx hb d_Mo_type_128 hc255_56 (fun y57 hy57a hy57b => ?_)
          refine sn_l2i hx hb d_Mo_type_129 (by omega) (by omega) (fun z58 hz58 => ?_)
          refine sv_iastr hx hb hK (sh_in adM_map hAC) hI 16 kM_16 (by omega) (by omega) (by omega) (by omega) pM_16 d_Mo_type_130 (fun H locs hI => ?_)
          refine lv_aload_n hx hb d_Mo_type_131 rfl (lv_at hl 0 rfl) ?_
          refine lv_dup hx hb d_Mo_type_132 rfl ?_
          refine sv_gete (C := "StoryMachineModel") (T := T_Mo) (N := 51) hx hb hts in_Mo hown hK hI 0 kM_0 rfl 34 (by decide) (hts _ mw_1097) rfl d_Mo_type_133 (fun z59 hz59 => ?_)
          refine sn_iconst hx hb d_Mo_type_136 (by decide) (fun z60 hz60 => ?_)
          refine sn_iadd hx hb d_Mo_type_137 (by omega) (by omega) (fun z61 hz61 => ?_)
          refine sv_put (C := "StoryMachineModel") (T := T_Mo) (N := 51) (ty := .int) hx hb hts in_Mo t_Mo tk_Mo nm_Mo hown hK (sh_in adM_map hAC) hI 0 kM_0 rfl 34 (by decide) (hts _ mw_1097) rfl (by decide +kernel) rfl rfl (Nat.le_of_ble_eq_true rfl) (Int.le_refl _) (Int.le_refl _) pM_0_34 d_Mo_type_138 (fun H locs hI => ?_)
          refine sn_iinc (k := 4) hx hb d_Mo_type_141 hl rfl (by decide) (by decide) (by omega) (by omega) (fun ls z62 hz62 hl => ?_)
          have hl : lv_has ls 8 [(5, .int z62), (0, .ref (a 0)), (1, .long v98z_1), (3, .int x3), (4, .int v98z_4)] := hl
          refine lv_goto (tgt := 98) hx hb d_Mo_type_144 (by decide) ?_
          have ho63 : okM t98z_th tr dp zi co sh lt z61.toInt mf := ⟨hok.1, hok.2.1, hok.2.2.1, hok.2.2.2.1, hok.2.2.2.2.1, hok.2.2.2.2.2.1, hok.2.2.2.2.2.2.1, ⟨by omega, by omega⟩, hok.2.2.2.2.2.2.2.2⟩
          exact ih _ _ _ v98z_4 z62 v98z_1 t98z_th z61.toInt hI ho63 (by omega) (by omega) (by omega) (by omega) (by omega) (by omega) (by omega) (lv_sub hl [1, 2, 3, 4, 0] rfl) (by omega)
  have j98p : ∀ (H : Heap) (locs : List Loc) (ls : Array Slot) (v98p_4 v98p_5 : Int32) (v98p_1 : Int64) (t98p_th : Int), sI (dC, dI) vcl cI cJ (gsM a t98p_th tr dp zi co sh lt ts mf) A s.heap H locs → okM t98p_th tr dp zi co sh lt ts mf → 0 ≤ v98p_4.toInt → v98p_4.toInt ≤ 1 → (-2147483648) ≤ v98p_5.toInt → v98p_5.toInt ≤ 2147483647 → 1 ≤ t98p_th → t98p_th ≤ 2 → lv_has ls 8 [(0, .ref (a 0)), (1, .long v98p_1), (3, .int x3), (4, .int v98p_4), (5, .int v98p_5)] → W p l e (headSpec tw_tbl rm_Mo_type).room s m ([.ref (a 0), .long y1, .int x3] : List Value).toArray below meth c H locs 0 0 Z (F0 m 98 ls []) := by
    intro H locs ls v98p_4 v98p_5 v98p_1 t98p_th hI hok g98_0 g98_1 g98_2 g98_3 g98_4 g98_5 hl
    obtain ⟨⟨o64, o65⟩, ⟨o66, o67⟩, ⟨o68, o69⟩, ⟨o70, o71⟩, ⟨o72, o73⟩, ⟨o74, o75⟩, ⟨o76, o77⟩, ⟨o78, o79⟩, -⟩ := id hok
    refine lv_iload hx hb d_Mo_type_98 (lv_at hl 4 rfl) ?_
    refine sn_if_lt (tgt := 147) hx hb d_Mo_type_100 (by decide) (fun b80 => ?_) (fun b80 => ?_)
    · subst hZ
      exact tz_ret (W.vret hx hb hr (fun t ht hW => ⟨⟨fun v9 hv9 => by cases hv9; exact (⟨t98p_th, ts, rfl, hok, by rw [ht]; exact hI.1⟩), fun x9 hx9 => (by cases hx9)⟩, hI.2.F ht⟩) hI.2.2.2 d_Mo_type_147)
    · refine lv_aload_n hx hb d_Mo_type_103 rfl (lv_at hl 0 rfl) ?_
      refine sv_gete (C := "StoryMachineModel") (T := T_Mo) (N := 51) hx hb hts in_Mo hown hK hI 0 kM_0 rfl 0 (by decide) (hts _ mw_1063) rfl d_Mo_type_104 (fun z81 hz81 => ?_)
      refine sn_if_ne (tgt := 147) hx hb d_Mo_type_107 (by decide) (fun b82 => ?_) (fun b82 => ?_)
      · subst hZ
        exact tz_ret (W.vret hx hb hr (fun t ht hW => ⟨⟨fun v9 hv9 => by cases hv9; exact (⟨t98p_th, ts, rfl, hok, by rw [ht]; exact hI.1⟩), fun x9 hx9 => (by cases hx9)⟩, hI.2.F ht⟩) hI.2.2.2 d_Mo_type_147)
      · omega
  have j64u : ∀ (H : Heap) (locs : List Loc) (ls : Array Slot) (v64u_4 v64u_5 : Int32) (v64u_1 : Int64), sI (dC, dI) vcl cI cJ (gsM a th tr dp zi co sh lt ts mf) A s.heap H locs → okM th tr dp zi co sh lt ts mf → 0 ≤ v64u_4.toInt → v64u_4.toInt ≤ 1 → (-2147483646) ≤ v64u_5.toInt → v64u_5.toInt ≤ 2147483647 → v64u_4.toInt = 0 ∨ (1 ≤ x3.toInt ∧ x3.toInt ≤ 8) → lv_has ls 8 [(0, .ref (a 0)), (1, .long v64u_1), (3, .int x3), (4, .int v64u_4), (5, .int v64u_5)] → W p l e (headSpec tw_tbl rm_Mo_type).room s m ([.ref (a 0), .long y1, .int x3] : List Value).toArray below meth c H locs 0 0 Z (F0 m 64 ls []) := by
    intro H locs ls v64u_4 v64u_5 v64u_1 hI hok g64_0 g64_1 g64_2 g64_3 g64_4 hl
    obtain ⟨⟨o83, o84⟩, ⟨o85, o86⟩, ⟨o87, o88⟩, ⟨o89, o90⟩, ⟨o91, o92⟩, ⟨o93, o94⟩, ⟨o95, o96⟩, ⟨o97, o98⟩, -⟩ := id hok
    refine lv_aload_n hx hb d_Mo_type_64 rfl (lv_at hl 0 rfl) ?_
    refine lv_iload hx hb d_Mo_type_65 (lv_at hl 3 rfl) ?_
    refine sn_if_ne (tgt := 74) hx hb d_Mo_type_67 (by decide) (fun b99 => ?_) (fun b99 => ?_)
    · refine lv_aload_n hx hb d_Mo_type_74 rfl (lv_at hl 0 rfl) ?_
      refine sv_gete (C := "StoryMachineModel") (T := T_Mo) (N := 51) hx hb hts in_Mo hown hK hI 0 kM_0 rfl 34 (by decide) (hts _ mw_1097) rfl d_Mo_type_75 (fun z100 hz100 => ?_)
      refine lv_iload_n hx hb d_Mo_type_78 rfl (lv_at hl 2 rfl) ?_
      refine sn_iadd hx hb d_Mo_type_79 (by omega) (by omega) (fun z101 hz101 => ?_)
      refine sn_bipush hx hb d_Mo_type_80 (by decide) (fun z102 hz102 => ?_)
      refine sn_icmp_le (tgt := 89) hx hb d_Mo_type_82 (by decide) (fun b103 => ?_) (fun b103 => ?_)
      · refine sn_iconst hx hb d_Mo_type_89 (by decide) (fun z104 hz104 => ?_)
        refine sv_put (C := "StoryMachineModel") (T := T_Mo) (N := 51) (ty := .int) hx hb hts in_Mo t_Mo tk_Mo nm_Mo hown hK (sh_in adM_map hAC) hI 0 kM_0 rfl 0 (by decide) (hts _ mw_1063) rfl (by decide +kernel) rfl rfl (Nat.le_of_ble_eq_true rfl) (Int.le_refl _) (Int.le_refl _) pM_0_0 d_Mo_type_90 (fun H locs hI => ?_)
        refine lv_iload_n hx hb d_Mo_type_93 rfl (lv_at hl 2 rfl) ?_
        refine sn_iconst hx hb d_Mo_type_94 (by decide) (fun z105 hz105 => ?_)
        refine sn_isub hx hb d_Mo_type_95 (by omega) (by omega) (fun z106 hz106 => ?_)
        refine lv_istore (lv' := [(5, .int z106), (0, .ref (a 0)), (1, .long v64u_1), (3, .int x3), (4, .int v64u_4)]) hx hb d_Mo_type_96 hl (by decide) rfl (fun ls hl => ?_)
        have ho107 : okM z104.toInt tr dp zi co sh lt ts mf := ⟨⟨by omega, by omega⟩, hok.2.1, hok.2.2.1, hok.2.2.2.1, hok.2.2.2.2.1, hok.2.2.2.2.2.1, hok.2.2.2.2.2.2.1, hok.2.2.2.2.2.2.2.1, hok.2.2.2.2.2.2.2.2⟩
        exact j98z 4294967295 _ _ _ v64u_4 z106 v64u_1 z104.toInt ts hI ho107 (by omega) (by omega) (by omega) (by omega) (by omega) (by omega) (by omega) (lv_sub hl [1, 2, 3, 4, 0] rfl) (by omega)
      · refine sn_iconst hx hb d_Mo_type_85 (by decide) (fun z108 hz108 => ?_)
        refine lv_goto (tgt := 90) hx hb d_Mo_type_86 (by decide) ?_
        refine sv_put (C := "StoryMachineModel") (T := T_Mo) (N := 51) (ty := .int) hx hb hts in_Mo t_Mo tk_Mo nm_Mo hown hK (sh_in adM_map hAC) hI 0 kM_0 rfl 0 (by decide) (hts _ mw_1063) rfl (by decide +kernel) rfl rfl (Nat.le_of_ble_eq_true rfl) (Int.le_refl _) (Int.le_refl _) pM_0_0 d_Mo_type_90 (fun H locs hI => ?_)
        refine lv_iload_n hx hb d_Mo_type_93 rfl (lv_at hl 2 rfl) ?_
        refine sn_iconst hx hb d_Mo_type_94 (by decide) (fun z109 hz109 => ?_)
        refine sn_isubT hx hb d_Mo_type_95 (fun z110 hz110a hz110b => ?_)
        refine lv_istore (lv' := [(5, .int z110), (0, .ref (a 0)), (1, .long v64u_1), (3, .int x3), (4, .int v64u_4)]) hx hb d_Mo_type_96 hl (by decide) rfl (fun ls hl => ?_)
        have ho111 : okM z108.toInt tr dp zi co sh lt ts mf := ⟨⟨by omega, by omega⟩, hok.2.1, hok.2.2.1, hok.2.2.2.1, hok.2.2.2.2.1, hok.2.2.2.2.2.1, hok.2.2.2.2.2.2.1, hok.2.2.2.2.2.2.2.1, hok.2.2.2.2.2.2.2.2⟩
        exact j98p _ _ _ v64u_4 z110 v64u_1 z108.toInt hI ho111 (by omega) (by omega) (by omega) (by omega) (by omega) (by omega) (lv_sub hl [1, 2, 3, 4, 0] rfl)
    · refine sn_iconst hx hb d_Mo_type_70 (by decide) (fun z112 hz112 => ?_)
      refine lv_goto (tgt := 90) hx hb d_Mo_type_71 (by decide) ?_
      refine sv_put (C := "StoryMachineModel") (T := T_Mo) (N := 51) (ty := .int) hx hb hts in_Mo t_Mo tk_Mo nm_Mo hown hK (sh_in adM_map hAC) hI 0 kM_0 rfl 0 (by decide) (hts _ mw_1063) rfl (by decide +kernel) rfl rfl (Nat.le_of_ble_eq_true rfl) (Int.le_refl _) (Int.le_refl _) pM_0_0 d_Mo_type_90 (fun H locs hI => ?_)
      refine lv_iload_n hx hb d_Mo_type_93 rfl (lv_at hl 2 rfl) ?_
      refine sn_iconst hx hb d_Mo_type_94 (by decide) (fun z113 hz113 => ?_)
      refine sn_isubT hx hb d_Mo_type_95 (fun z114 hz114a hz114b => ?_)
      refine lv_istore (lv' := [(5, .int z114), (0, .ref (a 0)), (1, .long v64u_1), (3, .int x3), (4, .int v64u_4)]) hx hb d_Mo_type_96 hl (by decide) rfl (fun ls hl => ?_)
      have ho115 : okM z112.toInt tr dp zi co sh lt ts mf := ⟨⟨by omega, by omega⟩, hok.2.1, hok.2.2.1, hok.2.2.2.1, hok.2.2.2.2.1, hok.2.2.2.2.2.1, hok.2.2.2.2.2.2.1, hok.2.2.2.2.2.2.2.1, hok.2.2.2.2.2.2.2.2⟩
      exact j98p _ _ _ v64u_4 z114 v64u_1 z112.toInt hI ho115 (by omega) (by omega) (by omega) (by omega) (by omega) (by omega) (lv_sub hl [1, 2, 3, 4, 0] rfl)
  have j9u : ∀ (n : Nat) (H : Heap) (locs : List Loc) (ls : Array Slot) (v9u_4 v9u_5 : Int32) (v9u_1 : Int64), sI (dC, dI) vcl cI cJ (gsM a th tr dp zi co sh lt ts mf) A s.heap H locs → okM th tr dp zi co sh lt ts mf → 0 ≤ v9u_4.toInt → v9u_4.toInt ≤ 1 → (-2147483645) ≤ v9u_5.toInt → v9u_5.toInt ≤ 2147483647 → v9u_4.toInt = 0 ∨ (1 ≤ x3.toInt ∧ x3.toInt ≤ 8) → lv_has ls 8 [(0, .ref (a 0)), (1, .long v9u_1), (3, .int x3), (4, .int v9u_4), (5, .int v9u_5)] → 2147483647 - v9u_5.toInt < (n : Int) → W p l e (headSpec tw_tbl rm_Mo_type).room s m ([.ref (a 0), .long y1, .int x3] : List Value).toArray below meth c H locs 0 0 Z (F0 m 9 ls []) := by
    intro n
    induction n with
    | zero => intro H locs ls v9u_4 v9u_5 v9u_1 hI hok g9_0 g9_1 g9_2 g9_3 g9_4 hl hme; exfalso; obtain ⟨⟨o116, o117⟩, ⟨o118, o119⟩, ⟨o120, o121⟩, ⟨o122, o123⟩, ⟨o124, o125⟩, ⟨o126, o127⟩, ⟨o128, o129⟩, ⟨o130, o131⟩, -⟩ := id hok; omega
    | succ n ih =>
      intro H locs ls v9u_4 v9u_5 v9u_1 hI hok g9_0 g9_1 g9_2 g9_3 g9_4 hl hme
      obtain ⟨⟨o132, o133⟩, ⟨o134, o135⟩, ⟨o136, o137⟩, ⟨o138, o139⟩, ⟨o140, o141⟩, ⟨o142, o143⟩, ⟨o144, o145⟩, ⟨o146, o147⟩, -⟩ := id hok
      have j55u : ∀ (H : Heap) (locs : List Loc) (ls : Array Slot) (v55u_6 : Int64), sI (dC, dI) vcl cI cJ (gsM a th tr dp zi co sh lt ts mf) A s.heap H locs → okM th tr dp zi co sh lt ts mf → 1 ≤ v9u_4.toInt → v9u_5.toInt ≤ 2147483646 → (-2147483645) ≤ x3.toInt → v9u_4.toInt = 0 ∨ (1 ≤ x3.toInt ∧ x3.toInt ≤ 8) → lv_has ls 8 [(0, .ref (a 0)), (1, .long v9u_1), (3, .int x3), (4, .int v9u_4), (5, .int v9u_5), (6, .long v55u_6)] → W p l e (headSpec tw_tbl rm_Mo_type).room s m ([.ref (a 0), .long y1, .int x3] : List Value).toArray below meth c H locs 0 0 Z (F0 m 55 ls []) := by
        intro H locs ls v55u_6 hI hok g55_0 g55_1 g55_2 g55_3 hl
        obtain ⟨⟨o148, o149⟩, ⟨o150, o151⟩, ⟨o152, o153⟩, ⟨o154, o155⟩, ⟨o156, o157⟩, ⟨o158, o159⟩, ⟨o160, o161⟩, ⟨o162, o163⟩, -⟩ := id hok
        refine sn_iconst hx hb d_Mo_type_55 (by decide) (fun z164 hz164 => ?_)
        refine lv_istore (lv' := [(4, .int z164), (0, .ref (a 0)), (1, .long v9u_1), (3, .int x3), (5, .int v9u_5), (6, .long v55u_6)]) hx hb d_Mo_type_56 hl (by decide) rfl (fun ls hl => ?_)
        refine sn_iinc (k := 4) hx hb d_Mo_type_58 hl rfl (by decide) (by decide) (by omega) (by omega) (fun ls z165 hz165 hl => ?_)
        have hl : lv_has ls 8 [(5, .int z165), (4, .int z164), (0, .ref (a 0)), (1, .long v9u_1), (3, .int x3), (6, .long v55u_6)] := hl
        refine lv_goto (tgt := 9) hx hb d_Mo_type_61 (by decide) ?_
        exact ih _ _ _ z164 z165 v9u_1 hI hok (by omega) (by omega) (by omega) (by omega) (by omega) (lv_sub hl [2, 3, 4, 1, 0] rfl) (by omega)
      refine lv_iload hx hb d_Mo_type_9 (lv_at hl 4 rfl) ?_
      refine lv_iload_n hx hb d_Mo_type_11 rfl (lv_at hl 2 rfl) ?_
      refine sn_icmp_ge (tgt := 64) hx hb d_Mo_type_12 (by decide) (fun b166 => ?_) (fun b166 => ?_)
      · exact j64u _ _ _ v9u_4 v9u_5 v9u_1 hI hok (by omega) (by omega) (by omega) (by omega) (by omega) (lv_sub hl [0, 1, 2, 3, 4] rfl)
      · refine lv_iload hx hb d_Mo_type_15 (lv_at hl 3 rfl) ?_
        refine sn_if_eq (tgt := 64) hx hb d_Mo_type_17 (by decide) (fun b167 => ?_) (fun b167 => ?_)
        · exact j64u _ _ _ v9u_4 v9u_5 v9u_1 hI hok (by omega) (by omega) (by omega) (by omega) (by omega) (lv_sub hl [0, 1, 2, 3, 4] rfl)
        · refine lv_lload_n hx hb d_Mo_type_20 rfl (lv_at hl 1 rfl) ?_
          refine sn_bipush hx hb d_Mo_type_21 (by decide) (fun z168 hz168 => ?_)
          refine lv_iload hx hb d_Mo_type_23 (lv_at hl 4 rfl) ?_
          refine sn_imulT hx hb d_Mo_type_25 (fun z169 hz169a hz169b => ?_)
          refine lv_lshr hx hb d_Mo_type_26 rfl ?_
          refine lv_topl (fun y170 hy170 => ?_)
          refine lv_ldc2 hx hb hown (hts _ mw_1504) d_Mo_type_27 ?_
          refine lv_topl (fun c255_171 hc255_171 => ?_)
          refine sn_land hx hb d_Mo_type_30 hc255_171 (fun y172 hy172a hy172b => ?_)
          refine lv_lstore (lv' := [(6, .long y172), (0, .ref (a 0)), (1, .long v9u_1), (3, .int x3), (4, .int v9u_4), (5, .int v9u_5)]) hx hb d_Mo_type_31 hl (by decide) rfl (fun ls hl => ?_)
          refine lv_lload hx hb d_Mo_type_33 (lv_at hl 0 rfl) ?_
          refine lv_ldc2 hx hb hown (hts _ mw_1517) d_Mo_type_35 ?_
          refine lv_topl (fun c32_173 hc32_173 => ?_)
          refine W.lcmp hx hb d_Mo_type_38 ?_
          refine sn_topi (fun z174 hz174a hz174b => ?_)
          refine sn_if_lt (tgt := 55) hx hb d_Mo_type_39 (by decide) (fun b175 => ?_) (fun b175 => ?_)
          · exact j55u _ _ _ y172 hI hok (by omega) (by omega) (by omega) (by omega) (lv_sub hl [1, 2, 3, 4, 5, 0] rfl)
          · refine lv_lload hx hb d_Mo_type_42 (lv_at hl 0 rfl) ?_
            refine lv_ldc2 hx hb hown (hts _ mw_1518) d_Mo_type_44 ?_
            refine lv_topl (fun c126_176 hc126_176 => ?_)
            refine W.lcmp hx hb d_Mo_type_47 ?_
            refine sn_topi (fun z177 hz177a hz177b => ?_)
            refine sn_if_gt (tgt := 55) hx hb d_Mo_type_48 (by decide) (fun b178 => ?_) (fun b178 => ?_)
            · exact j55u _ _ _ y172 hI hok (by omega) (by omega) (by omega) (by omega) (lv_sub hl [1, 2, 3, 4, 5, 0] rfl)
            · refine sn_iconst hx hb d_Mo_type_51 (by decide) (fun z179 hz179 => ?_)
              refine lv_goto (tgt := 56) hx hb d_Mo_type_52 (by decide) ?_
              refine lv_istore (lv' := [(4, .int z179), (6, .long y172), (0, .ref (a 0)), (1, .long v9u_1), (3, .int x3), (5, .int v9u_5)]) hx hb d_Mo_type_56 hl (by decide) rfl (fun ls hl => ?_)
              refine sn_iinc (k := 5) hx hb d_Mo_type_58 hl rfl (by decide) (by decide) (by omega) (by omega) (fun ls z180 hz180 hl => ?_)
              have hl : lv_has ls 8 [(5, .int z180), (4, .int z179), (6, .long y172), (0, .ref (a 0)), (1, .long v9u_1), (3, .int x3)] := hl
              refine lv_goto (tgt := 9) hx hb d_Mo_type_61 (by decide) ?_
              exact ih _ _ _ z179 z180 v9u_1 hI hok (by omega) (by omega) (by omega) (by omega) (by omega) (lv_sub hl [3, 4, 5, 1, 0] rfl) (by omega)
  refine lv_iload_n hx hb d_Mo_type_0 rfl (lv_at hl 2 rfl) ?_
  refine tz_call (A1 := ga (adM a) H.size) (tz_runS (As := [.int x3]) (rest := []) ⟨hx, hb, hml, hown, hts⟩ (c_Mo_isFew l hfl dC dI cI cJ a H.size th tr dp zi co sh lt ts mf x3 hok) (tx_cb (n := 1) hts rfl rfl ⟨Nat.le_of_ble_eq_true rfl, Nat.le_of_ble_eq_true rfl⟩ (tx_code.of (hts _ mw_1503)) (hts _ mw_12) (by decide +kernel) (hts _ mw_1501)) (hts _ mw_1502) ⟨tz_blind, fun U hU hW => ⟨rfl, by rw [hU], by rw [hU]; exact hI.1, va_K.moved hW.alike hK, hst _ _ hI.2 U hU hW⟩⟩ rfl rfl hl.1 rfl (lv_room (Nat.le_of_ble_eq_true rfl)) d_Mo_type_1 ⟨Nat.le_of_ble_eq_true rfl, Nat.le_of_ble_eq_true rfl⟩) hI.2 (fun q _ h => ga_sub hAC hA0 hI.2 q h) (ga_sub hAC hA0 hI.2) (fun v t H1 locs1 ht hWt hpost _ _ hS => ?_) (fun x t H1 locs1 ht hWt hpost _ _ hS => (hpost.2 x rfl).elim)
  rcases hpost.1 _ rfl with ⟨z181, hv, c182, c182_0, c182_1, c182_2, hI1⟩ | ⟨z183, hv, c184, c184_0, c184_1, c184_2, c184_3, hI1⟩
  · cases hv
    have hI : sI (dC, dI) vcl cI cJ (gsM a th tr dp zi co sh lt ts mf) A s.heap H1 locs1 := ⟨by rw [← ht]; exact hI1, hS⟩
    clear hpost hI1 hS ht hWt
    revert hI; generalize H1 = H; generalize locs1 = locs; intro hI
    refine lv_istore (lv' := [(4, .int z181), (0, .ref (a 0)), (1, .long y1), (3, .int x3)]) hx hb d_Mo_type_4 hl (by decide) rfl (fun ls hl => ?_)
    refine sn_iconst hx hb d_Mo_type_6 (by decide) (fun z185 hz185 => ?_)
    refine lv_istore (lv' := [(5, .int z185), (4, .int z181), (0, .ref (a 0)), (1, .long y1), (3, .int x3)]) hx hb d_Mo_type_7 hl (by decide) rfl (fun ls hl => ?_)
    exact j9u 4294967293 _ _ _ z181 z185 y1 hI c182 (by omega) (by omega) (by omega) (by omega) (by omega) (lv_sub hl [2, 3, 4, 1, 0] rfl) (by omega)
  · cases hv
    have hI : sI (dC, dI) vcl cI cJ (gsM a th tr dp zi co sh lt ts mf) A s.heap H1 locs1 := ⟨by rw [← ht]; exact hI1, hS⟩
    clear hpost hI1 hS ht hWt
    revert hI; generalize H1 = H; generalize locs1 = locs; intro hI
    refine lv_istore (lv' := [(4, .int z183), (0, .ref (a 0)), (1, .long y1), (3, .int x3)]) hx hb d_Mo_type_4 hl (by decide) rfl (fun ls hl => ?_)
    refine sn_iconst hx hb d_Mo_type_6 (by decide) (fun z186 hz186 => ?_)
    refine lv_istore (lv' := [(5, .int z186), (4, .int z183), (0, .ref (a 0)), (1, .long y1), (3, .int x3)]) hx hb d_Mo_type_7 hl (by decide) rfl (fun ls hl => ?_)
    exact j9u 4294967293 _ _ _ z183 z186 y1 hI c184 (by omega) (by omega) (by omega) (by omega) (by omega) (lv_sub hl [2, 3, 4, 1, 0] rfl) (by omega)
abbrev q_Mo_copy_16_17 (dC : Nat → ClassId) (dI : Nat → Nat → Nat) (cI cJ : ClassId) (a : Nat → Nat) (th tr dp zi co sh lt ts : Int) (mf : Nat → Int32) (x2 : Int32) : Outcome → State → Prop := fun o t => (∀ v, o = .returned v → ((v = none ∧ okM th tr dp zi co sh lt ts mf ∧ sh_I (dC, dI) vcl cI cJ (gsM a th tr dp zi co sh lt ts mf) t.heap))) ∧ (∀ x, o = .threw x → (False))
def rm_Mo_copy_16_17 : Room := { frames := 0, cells := 0, slots := 0, locals := 0 }
set_option maxHeartbeats 4000000 in
set_option maxRecDepth 100000 in
theorem c_Mo_copy_16_17 (l : Launch) (hfl : l.flags = pinnedFlags ++ [noTraceFlag]) (dC : Nat → ClassId) (dI : Nat → Nat → Nat) (cI cJ : ClassId) (a : Nat → Nat) (sz : Nat) (th tr dp zi co sh lt ts : Int) (mf : Nat → Int32) (x2 : Int32) (hok : okM th tr dp zi co sh lt ts mf) (hp0 : 0 ≤ x2.toInt) (hp1 : x2.toInt ≤ 24) : tz_Met l ⟨"StoryMachineModel", "copy", "([I[II)V"⟩ tw_tbl rm_Mo_copy_16_17 (tzP (dC, dI) vcl cI cJ (gsM a th tr dp zi co sh lt ts mf) a (adM a) [.ref (a 16), .ref (a 17), .int x2] sz) (tq_Q (q_Mo_copy_16_17 dC dI cI cJ a th tr dp zi co sh lt ts mf x2) (ga (adM a) sz)) 0 0 0 0 (ga (adM a) sz) := by
  refine tz_ofW (cc := prog_13_method_56_code) (maxL := 4) (ret := none) (by decide) (tx_isM mw_1428) ?_
  intro p e s m args below meth c s₁ B hml hv
  obtain ⟨rfl, hsz, hI0, hK, hst0⟩ := hv
  have hx := B.exec
  have hb := B.bytes
  have hr := B.returns
  have hts := atoms_spec (ws := tw_tbl) B.pre
  have hown : s.vm.findClass "StoryMachineModel" = some m.cls := findClass_of_methodNamed B.named
  have hlocks := B.notSynchronized
  subst hsz
  have hst := fun (H : Heap) (locs : List Loc) (hS : va_S (ga (adM a) s.heap.size) s.heap H locs) (U : State) (hU : U.heap = H) (hW : s.WarmedH U.vm) => zS_all adM_map hI0 hst0 hS hU hW
  have hAC : ∀ q ∈ adM a, ga (adM a) s.heap.size q := fun q h => Or.inl h
  have hA0 : ∀ q, s.heap.size ≤ q → ga (adM a) s.heap.size q := fun q h => Or.inr h
  have hI : sI (dC, dI) vcl cI cJ (gsM a th tr dp zi co sh lt ts mf) (ga (adM a) s.heap.size) s.heap s.heap [] := ⟨hI0, va_S.rf⟩
  clear hI0 hst0
  have hl := lv_entry ([.ref (a 16), .ref (a 17), .int x2]) (n := 4) (Nat.le_of_ble_eq_true rfl)
  rw [lg_entry_eq]
  generalize (lg_sl ([.ref (a 16), .ref (a 17), .int x2]) ++ List.replicate (4 - (lg_sl ([.ref (a 16), .ref (a 17), .int x2])).length) Slot.unset).toArray = ls at hl ⊢
  have hl : lv_has ls 4 [(0, .ref (a 16)), (1, .ref (a 17)), (2, .int x2)] := hl
  generalize hZ : tz_MQ below (tq_Q (q_Mo_copy_16_17 dC dI cI cJ a th tr dp zi co sh lt ts mf x2) (ga (adM a) s.heap.size)) ([.ref (a 16), .ref (a 17), .int x2] : List Value).toArray s 0 0 0 0 (ga (adM a) s.heap.size) = Z
  obtain ⟨A, hAe⟩ : ∃ A, A = ga (adM a) s.heap.size := ⟨_, rfl⟩
  rw [← hAe] at hst hAC hA0 hI hZ
  refine sv_start hI (fun H locs hI => ?_)
  obtain ⟨⟨o1, o2⟩, ⟨o3, o4⟩, ⟨o5, o6⟩, ⟨o7, o8⟩, ⟨o9, o10⟩, ⟨o11, o12⟩, ⟨o13, o14⟩, ⟨o15, o16⟩, -⟩ := id hok
  have gx2 := sn_rng x2
  have j2 : ∀ (n : Nat) (H : Heap) (locs : List Loc) (ls : Array Slot) (v2_3 : Int32), sI (dC, dI) vcl cI cJ (gsM a th tr dp zi co sh lt ts mf) A s.heap H locs → okM th tr dp zi co sh lt ts mf → 0 ≤ v2_3.toInt → v2_3.toInt ≤ 24 → lv_has ls 4 [(0, .ref (a 16)), (1, .ref (a 17)), (2, .int x2), (3, .int v2_3)] → 24 - v2_3.toInt < (n : Int) → W p l e (headSpec tw_tbl rm_Mo_copy_16_17).room s m ([.ref (a 16), .ref (a 17), .int x2] : List Value).toArray below meth c H locs 0 0 Z (F0 m 2 ls []) := by
    intro n
    induction n with
    | zero => intro H locs ls v2_3 hI hok g2_0 g2_1 hl hme; exfalso; obtain ⟨⟨o17, o18⟩, ⟨o19, o20⟩, ⟨o21, o22⟩, ⟨o23, o24⟩, ⟨o25, o26⟩, ⟨o27, o28⟩, ⟨o29, o30⟩, ⟨o31, o32⟩, -⟩ := id hok; omega
    | succ n ih =>
      intro H locs ls v2_3 hI hok g2_0 g2_1 hl hme
      obtain ⟨⟨o33, o34⟩, ⟨o35, o36⟩, ⟨o37, o38⟩, ⟨o39, o40⟩, ⟨o41, o42⟩, ⟨o43, o44⟩, ⟨o45, o46⟩, ⟨o47, o48⟩, -⟩ := id hok
      refine lv_iload_n hx hb d_Mo_copy_2 rfl (lv_at hl 3 rfl) ?_
      refine lv_iload_n hx hb d_Mo_copy_3 rfl (lv_at hl 2 rfl) ?_
      refine sn_icmp_ge (tgt := 19) hx hb d_Mo_copy_4 (by decide) (fun b49 => ?_) (fun b49 => ?_)
      · subst hZ
        exact tz_ret (W.vret hx hb hr (fun t ht hW => ⟨⟨fun v9 hv9 => by cases hv9; exact (⟨rfl, hok, by rw [ht]; exact hI.1⟩), fun x9 hx9 => (by cases hx9)⟩, hI.2.F ht⟩) hI.2.2.2 d_Mo_copy_19)
      · refine lv_aload_n hx hb d_Mo_copy_7 rfl (lv_at hl 1 rfl) ?_
        refine lv_iload_n hx hb d_Mo_copy_8 rfl (lv_at hl 3 rfl) ?_
        refine lv_aload_n hx hb d_Mo_copy_9 rfl (lv_at hl 0 rfl) ?_
        refine lv_iload_n hx hb d_Mo_copy_10 rfl (lv_at hl 3 rfl) ?_
        refine sv_ialdr hx hb hK hI 16 kM_16 (by omega) (by omega) d_Mo_copy_11 (fun z50 hz50a hz50b => ?_)
        refine sv_iastr hx hb hK (sh_in adM_map hAC) hI 17 kM_17 (by omega) (by omega) (by omega) (by omega) pM_17 d_Mo_copy_12 (fun H locs hI => ?_)
        refine sn_iinc (k := 3) hx hb d_Mo_copy_13 hl rfl (by decide) (by decide) (by omega) (by omega) (fun ls z51 hz51 hl => ?_)
        have hl : lv_has ls 4 [(3, .int z51), (0, .ref (a 16)), (1, .ref (a 17)), (2, .int x2)] := hl
        refine lv_goto (tgt := 2) hx hb d_Mo_copy_16 (by decide) ?_
        exact ih _ _ _ z51 hI hok (by omega) (by omega) (lv_sub hl [1, 2, 3, 0] rfl) (by omega)
  refine sn_iconst hx hb d_Mo_copy_0 (by decide) (fun z52 hz52 => ?_)
  refine lv_istore_n (lv' := [(3, .int z52), (0, .ref (a 16)), (1, .ref (a 17)), (2, .int x2)]) hx hb d_Mo_copy_1 rfl hl (by decide) rfl (fun ls hl => ?_)
  exact j2 25 _ _ _ z52 hI hok (by omega) (by omega) (lv_sub hl [1, 2, 3, 0] rfl) (by omega)
abbrev q_Mo_enter (dC : Nat → ClassId) (dI : Nat → Nat → Nat) (cI cJ : ClassId) (a : Nat → Nat) (th tr dp zi co sh lt ts : Int) (mf : Nat → Int32) : Outcome → State → Prop := fun o t => (∀ v, o = .returned v → ((∃ (th_ ts_ : Int), v = none ∧ okM th_ tr dp zi co sh lt ts_ mf ∧ (th_ ≤ 0) ∧ (ts_ ≤ 0) ∧ sh_I (dC, dI) vcl cI cJ (gsM a th_ tr dp zi co sh lt ts_ mf) t.heap))) ∧ (∀ x, o = .threw x → (False))
def rm_Mo_enter : Room := { frames := 1, cells := 0, slots := 0, locals := 23 }
set_option maxHeartbeats 4000000 in
set_option maxRecDepth 100000 in
theorem c_Mo_enter (l : Launch) (hfl : l.flags = pinnedFlags ++ [noTraceFlag]) (dC : Nat → ClassId) (dI : Nat → Nat → Nat) (cI cJ : ClassId) (a : Nat → Nat) (sz : Nat) (th tr dp zi co sh lt ts : Int) (mf : Nat → Int32) (hok : okM th tr dp zi co sh lt ts mf) : tz_Met l ⟨"StoryMachineModel", "enter", "()V"⟩ tw_tbl rm_Mo_enter (tzP (dC, dI) vcl cI cJ (gsM a th tr dp zi co sh lt ts mf) a (adM a) [.ref (a 0)] sz) (tq_Q (q_Mo_enter dC dI cI cJ a th tr dp zi co sh lt ts mf) (ga (adM a) sz)) 0 0 0 0 (ga (adM a) sz) := by
  refine tz_ofW (cc := prog_13_method_78_code) (maxL := 1) (ret := none) (by decide) (tx_isM mw_1522) ?_
  intro p e s m args below meth c s₁ B hml hv
  obtain ⟨rfl, hsz, hI0, hK, hst0⟩ := hv
  have hx := B.exec
  have hb := B.bytes
  have hr := B.returns
  have hts := atoms_spec (ws := tw_tbl) B.pre
  have hown : s.vm.findClass "StoryMachineModel" = some m.cls := findClass_of_methodNamed B.named
  have hlocks := B.notSynchronized
  subst hsz
  have hst := fun (H : Heap) (locs : List Loc) (hS : va_S (ga (adM a) s.heap.size) s.heap H locs) (U : State) (hU : U.heap = H) (hW : s.WarmedH U.vm) => zS_all adM_map hI0 hst0 hS hU hW
  have hAC : ∀ q ∈ adM a, ga (adM a) s.heap.size q := fun q h => Or.inl h
  have hA0 : ∀ q, s.heap.size ≤ q → ga (adM a) s.heap.size q := fun q h => Or.inr h
  have hI : sI (dC, dI) vcl cI cJ (gsM a th tr dp zi co sh lt ts mf) (ga (adM a) s.heap.size) s.heap s.heap [] := ⟨hI0, va_S.rf⟩
  clear hI0 hst0
  have hl := lv_entry ([.ref (a 0)]) (n := 1) (Nat.le_of_ble_eq_true rfl)
  rw [lg_entry_eq]
  generalize (lg_sl ([.ref (a 0)]) ++ List.replicate (1 - (lg_sl ([.ref (a 0)])).length) Slot.unset).toArray = ls at hl ⊢
  have hl : lv_has ls 1 [(0, .ref (a 0))] := hl
  generalize hZ : tz_MQ below (tq_Q (q_Mo_enter dC dI cI cJ a th tr dp zi co sh lt ts mf) (ga (adM a) s.heap.size)) ([.ref (a 0)] : List Value).toArray s 0 0 0 0 (ga (adM a) s.heap.size) = Z
  obtain ⟨A, hAe⟩ : ∃ A, A = ga (adM a) s.heap.size := ⟨_, rfl⟩
  rw [← hAe] at hst hAC hA0 hI hZ
  refine sv_start hI (fun H locs hI => ?_)
  obtain ⟨⟨o1, o2⟩, ⟨o3, o4⟩, ⟨o5, o6⟩, ⟨o7, o8⟩, ⟨o9, o10⟩, ⟨o11, o12⟩, ⟨o13, o14⟩, ⟨o15, o16⟩, -⟩ := id hok
  refine lv_aload_n hx hb d_Mo_enter_0 rfl (lv_at hl 0 rfl) ?_
  refine sn_iconst hx hb d_Mo_enter_1 (by decide) (fun z17 hz17 => ?_)
  refine sv_put (C := "StoryMachineModel") (T := T_Mo) (N := 51) (ty := .int) hx hb hts in_Mo t_Mo tk_Mo nm_Mo hown hK (sh_in adM_map hAC) hI 0 kM_0 rfl 0 (by decide) (hts _ mw_1063) rfl (by decide +kernel) rfl rfl (Nat.le_of_ble_eq_true rfl) (Int.le_refl _) (Int.le_refl _) pM_0_0 d_Mo_enter_2 (fun H locs hI => ?_)
  refine lv_aload_n hx hb d_Mo_enter_5 rfl (lv_at hl 0 rfl) ?_
  refine lv_aload_n hx hb d_Mo_enter_6 rfl (lv_at hl 0 rfl) ?_
  refine sv_gete (C := "StoryMachineModel") (T := T_Mo) (N := 51) hx hb hts in_Mo hown hK hI 0 kM_0 rfl 34 (by decide) (hts _ mw_1097) rfl d_Mo_enter_7 (fun z18 hz18 => ?_)
  refine sv_put (C := "StoryMachineModel") (T := T_Mo) (N := 51) (ty := .int) hx hb hts in_Mo t_Mo tk_Mo nm_Mo hown hK (sh_in adM_map hAC) hI 0 kM_0 rfl 36 (by decide) (hts _ mw_1099) rfl (by decide +kernel) rfl rfl (Nat.le_of_ble_eq_true rfl) (by omega) (by omega) pM_0_36 d_Mo_enter_10 (fun H locs hI => ?_)
  refine lv_aload_n hx hb d_Mo_enter_13 rfl (lv_at hl 0 rfl) ?_
  refine sv_getr (C := "StoryMachineModel") (T := T_Mo) (N := 51) hx hb hts in_Mo hown hK hI 0 kM_0 rfl 35 (by decide) (hts _ mw_1098) rfl d_Mo_enter_14 ?_
  refine lv_aload_n hx hb d_Mo_enter_17 rfl (lv_at hl 0 rfl) ?_
  refine sv_getr (C := "StoryMachineModel") (T := T_Mo) (N := 51) hx hb hts in_Mo hown hK hI 0 kM_0 rfl 37 (by decide) (hts _ mw_1100) rfl d_Mo_enter_18 ?_
  refine lv_aload_n hx hb d_Mo_enter_21 rfl (lv_at hl 0 rfl) ?_
  refine sv_gete (C := "StoryMachineModel") (T := T_Mo) (N := 51) hx hb hts in_Mo hown hK hI 0 kM_0 rfl 34 (by decide) (hts _ mw_1097) rfl d_Mo_enter_22 (fun z19 hz19 => ?_)
  have ho20 : okM z17.toInt tr dp zi co sh lt ts mf := ⟨⟨by omega, by omega⟩, hok.2.1, hok.2.2.1, hok.2.2.2.1, hok.2.2.2.2.1, hok.2.2.2.2.2.1, hok.2.2.2.2.2.2.1, hok.2.2.2.2.2.2.2.1, hok.2.2.2.2.2.2.2.2⟩
  refine tz_call (A1 := ga (adM a) H.size) (tz_runS (As := [.ref (a 16), .ref (a 17), .int z19]) (rest := []) ⟨hx, hb, hml, hown, hts⟩ (c_Mo_copy_16_17 l hfl dC dI cI cJ a H.size z17.toInt tr dp zi co sh lt ts mf z19 ho20 (by omega) (by omega)) (tx_cb (n := 3) hts rfl rfl ⟨Nat.le_of_ble_eq_true rfl, Nat.le_of_ble_eq_true rfl⟩ (tx_code.of (hts _ mw_1428)) (hts _ mw_12) (by decide +kernel) (hts _ mw_1426)) (hts _ mw_1427) ⟨tz_blind, fun U hU hW => ⟨rfl, by rw [hU], by rw [hU]; exact hI.1, va_K.moved hW.alike hK, hst _ _ hI.2 U hU hW⟩⟩ rfl rfl hl.1 rfl (lv_room (Nat.le_of_ble_eq_true rfl)) d_Mo_enter_25 ⟨Nat.le_of_ble_eq_true rfl, Nat.le_of_ble_eq_true rfl⟩) hI.2 (fun q _ h => ga_sub hAC hA0 hI.2 q h) (ga_sub hAC hA0 hI.2) (fun v t H1 locs1 ht hWt hpost _ _ hS => ?_) (fun x t H1 locs1 ht hWt hpost _ _ hS => (hpost.2 x rfl).elim)
  rcases hpost.1 _ rfl with ⟨hv, c21, hI1⟩
  cases hv
  have hI : sI (dC, dI) vcl cI cJ (gsM a z17.toInt tr dp zi co sh lt ts mf) A s.heap H1 locs1 := ⟨by rw [← ht]; exact hI1, hS⟩
  clear hpost hI1 hS ht hWt
  revert hI; generalize H1 = H; generalize locs1 = locs; intro hI
  refine lv_aload_n hx hb d_Mo_enter_28 rfl (lv_at hl 0 rfl) ?_
  refine sn_iconst hx hb d_Mo_enter_29 (by decide) (fun z22 hz22 => ?_)
  refine sv_put (C := "StoryMachineModel") (T := T_Mo) (N := 51) (ty := .int) hx hb hts in_Mo t_Mo tk_Mo nm_Mo hown hK (sh_in adM_map hAC) hI 0 kM_0 rfl 34 (by decide) (hts _ mw_1097) rfl (by decide +kernel) rfl rfl (Nat.le_of_ble_eq_true rfl) (Int.le_refl _) (Int.le_refl _) pM_0_34 d_Mo_enter_30 (fun H locs hI => ?_)
  refine lv_aload_n hx hb d_Mo_enter_33 rfl (lv_at hl 0 rfl) ?_
  refine sn_iconst hx hb d_Mo_enter_34 (by decide) (fun z23 hz23 => ?_)
  refine sv_put (C := "StoryMachineModel") (T := T_Mo) (N := 51) (ty := .boolean) hx hb hts in_Mo t_Mo tk_Mo nm_Mo hown hK (sh_in adM_map hAC) hI 0 kM_0 rfl 33 (by decide) (hts _ mw_1096) rfl (by decide +kernel) (sn_bool (by omega) (by omega)).1 (sn_bool (by omega) (by omega)).2 (Nat.le_of_ble_eq_true rfl) (by omega) (by omega) pM_0_33 d_Mo_enter_35 (fun H locs hI => ?_)
  have ho24 : okM z17.toInt tr dp zi co sh lt z22.toInt mf := ⟨c21.1, c21.2.1, c21.2.2.1, c21.2.2.2.1, c21.2.2.2.2.1, c21.2.2.2.2.2.1, c21.2.2.2.2.2.2.1, ⟨by omega, by omega⟩, c21.2.2.2.2.2.2.2.2⟩
  subst hZ
  exact tz_ret (W.vret hx hb hr (fun t ht hW => ⟨⟨fun v9 hv9 => by cases hv9; exact (⟨z17.toInt, z22.toInt, rfl, ho24, by omega, by omega, by rw [ht]; exact hI.1⟩), fun x9 hx9 => (by cases hx9)⟩, hI.2.F ht⟩) hI.2.2.2 d_Mo_enter_38)
abbrev q_Mo_good (dC : Nat → ClassId) (dI : Nat → Nat → Nat) (cI cJ : ClassId) (a : Nat → Nat) (th tr dp zi co sh lt ts : Int) (mf : Nat → Int32) (x1 : Int32) (x2 : Int32) : Outcome → State → Prop := fun o t => (∀ v, o = .returned v → ((∃ (z : Int32) (tr_ : Int), v = some (.int z) ∧ okM th tr_ dp zi co sh lt ts mf ∧ (0 ≤ z.toInt) ∧ (z.toInt ≤ 0) ∧ (1 ≤ tr_) ∧ (1 ≤ tr ∨ x1.toInt = 0) ∧ sh_I (dC, dI) vcl cI cJ (gsM a th tr_ dp zi co sh lt ts mf) t.heap) ∨ (∃ (z : Int32), v = some (.int z) ∧ okM th tr dp zi co sh lt ts mf ∧ (1 ≤ z.toInt) ∧ (z.toInt ≤ 1) ∧ (1 ≤ x1.toInt) ∧ (tr ≤ 0) ∧ sh_I (dC, dI) vcl cI cJ (gsM a th tr dp zi co sh lt ts mf) t.heap))) ∧ (∀ x, o = .threw x → (False))
def rm_Mo_good : Room := { frames := 0, cells := 0, slots := 0, locals := 0 }
set_option maxHeartbeats 4000000 in
set_option maxRecDepth 100000 in
theorem c_Mo_good (l : Launch) (hfl : l.flags = pinnedFlags ++ [noTraceFlag]) (dC : Nat → ClassId) (dI : Nat → Nat → Nat) (cI cJ : ClassId) (a : Nat → Nat) (sz : Nat) (th tr dp zi co sh lt ts : Int) (mf : Nat → Int32) (x1 : Int32) (x2 : Int32) (hok : okM th tr dp zi co sh lt ts mf) (hp0 : 0 ≤ x1.toInt) (hp1 : x1.toInt ≤ 1) (hp2 : 1 ≤ x2.toInt) (hp3 : x2.toInt ≤ 4) : tz_Met l ⟨"StoryMachineModel", "good", "(ZI)Z"⟩ tw_tbl rm_Mo_good (tzP (dC, dI) vcl cI cJ (gsM a th tr dp zi co sh lt ts mf) a (adM a) [.ref (a 0), .int x1, .int x2] sz) (tq_Q (q_Mo_good dC dI cI cJ a th tr dp zi co sh lt ts mf x1 x2) (ga (adM a) sz)) 0 0 0 0 (ga (adM a) sz) := by
  refine tz_ofW (cc := prog_13_method_3_code) (maxL := 3) (ret := (some .boolean)) (by decide) (tx_isM mw_1240) ?_
  intro p e s m args below meth c s₁ B hml hv
  obtain ⟨rfl, hsz, hI0, hK, hst0⟩ := hv
  have hx := B.exec
  have hb := B.bytes
  have hr := B.returns
  have hts := atoms_spec (ws := tw_tbl) B.pre
  have hown : s.vm.findClass "StoryMachineModel" = some m.cls := findClass_of_methodNamed B.named
  have hlocks := B.notSynchronized
  subst hsz
  have hst := fun (H : Heap) (locs : List Loc) (hS : va_S (ga (adM a) s.heap.size) s.heap H locs) (U : State) (hU : U.heap = H) (hW : s.WarmedH U.vm) => zS_all adM_map hI0 hst0 hS hU hW
  have hAC : ∀ q ∈ adM a, ga (adM a) s.heap.size q := fun q h => Or.inl h
  have hA0 : ∀ q, s.heap.size ≤ q → ga (adM a) s.heap.size q := fun q h => Or.inr h
  have hI : sI (dC, dI) vcl cI cJ (gsM a th tr dp zi co sh lt ts mf) (ga (adM a) s.heap.size) s.heap s.heap [] := ⟨hI0, va_S.rf⟩
  clear hI0 hst0
  have hl := lv_entry ([.ref (a 0), .int x1, .int x2]) (n := 3) (Nat.le_of_ble_eq_true rfl)
  rw [lg_entry_eq]
  generalize (lg_sl ([.ref (a 0), .int x1, .int x2]) ++ List.replicate (3 - (lg_sl ([.ref (a 0), .int x1, .int x2])).length) Slot.unset).toArray = ls at hl ⊢
  have hl : lv_has ls 3 [(0, .ref (a 0)), (1, .int x1), (2, .int x2)] := hl
  generalize hZ : tz_MQ below (tq_Q (q_Mo_good dC dI cI cJ a th tr dp zi co sh lt ts mf x1 x2) (ga (adM a) s.heap.size)) ([.ref (a 0), .int x1, .int x2] : List Value).toArray s 0 0 0 0 (ga (adM a) s.heap.size) = Z
  obtain ⟨A, hAe⟩ : ∃ A, A = ga (adM a) s.heap.size := ⟨_, rfl⟩
  rw [← hAe] at hst hAC hA0 hI hZ
  refine sv_start hI (fun H locs hI => ?_)
  obtain ⟨⟨o1, o2⟩, ⟨o3, o4⟩, ⟨o5, o6⟩, ⟨o7, o8⟩, ⟨o9, o10⟩, ⟨o11, o12⟩, ⟨o13, o14⟩, ⟨o15, o16⟩, -⟩ := id hok
  have gx1 := sn_rng x1
  have gx2 := sn_rng x2
  refine lv_aload_n hx hb d_Mo_good_0 rfl (lv_at hl 0 rfl) ?_
  refine sv_gete (C := "StoryMachineModel") (T := T_Mo) (N := 51) hx hb hts in_Mo hown hK hI 0 kM_0 rfl 25 (by decide) (hts _ mw_1088) rfl d_Mo_good_1 (fun z17 hz17 => ?_)
  refine sn_if_ne (tgt := 16) hx hb d_Mo_good_4 (by decide) (fun b18 => ?_) (fun b18 => ?_)
  · refine lv_aload_n hx hb d_Mo_good_16 rfl (lv_at hl 0 rfl) ?_
    refine sv_gete (C := "StoryMachineModel") (T := T_Mo) (N := 51) hx hb hts in_Mo hown hK hI 0 kM_0 rfl 25 (by decide) (hts _ mw_1088) rfl d_Mo_good_17 (fun z19 hz19 => ?_)
    refine sn_if_ne (tgt := 27) hx hb d_Mo_good_20 (by decide) (fun b20 => ?_) (fun b20 => ?_)
    · refine sn_iconst hx hb d_Mo_good_27 (by decide) (fun z21 hz21 => ?_)
      subst hZ
      exact tz_ret (W.zret (v := z21) hx hb hr (sn_bool (by omega) (by omega)).1 (fun t ht hW => ⟨⟨fun v9 hv9 => by cases hv9; exact (Or.inl ⟨z21, tr, rfl, hok, by omega, by omega, by omega, by omega, by rw [ht]; exact hI.1⟩), fun x9 hx9 => (by cases hx9)⟩, hI.2.F ht⟩) hI.2.2.2 d_Mo_good_28)
    · omega
  · refine lv_iload_n hx hb d_Mo_good_7 rfl (lv_at hl 1 rfl) ?_
    refine sn_if_ne (tgt := 16) hx hb d_Mo_good_8 (by decide) (fun b22 => ?_) (fun b22 => ?_)
    · refine lv_aload_n hx hb d_Mo_good_16 rfl (lv_at hl 0 rfl) ?_
      refine sv_gete (C := "StoryMachineModel") (T := T_Mo) (N := 51) hx hb hts in_Mo hown hK hI 0 kM_0 rfl 25 (by decide) (hts _ mw_1088) rfl d_Mo_good_17 (fun z23 hz23 => ?_)
      refine sn_if_ne (tgt := 27) hx hb d_Mo_good_20 (by decide) (fun b24 => ?_) (fun b24 => ?_)
      · omega
      · refine sn_iconst hx hb d_Mo_good_23 (by decide) (fun z25 hz25 => ?_)
        refine lv_goto (tgt := 28) hx hb d_Mo_good_24 (by decide) ?_
        subst hZ
        exact tz_ret (W.zret (v := z25) hx hb hr (sn_bool (by omega) (by omega)).1 (fun t ht hW => ⟨⟨fun v9 hv9 => by cases hv9; exact (Or.inr (⟨z25, rfl, hok, by omega, by omega, by omega, by omega, by rw [ht]; exact hI.1⟩)), fun x9 hx9 => (by cases hx9)⟩, hI.2.F ht⟩) hI.2.2.2 d_Mo_good_28)
    · refine lv_aload_n hx hb d_Mo_good_11 rfl (lv_at hl 0 rfl) ?_
      refine lv_iload_n hx hb d_Mo_good_12 rfl (lv_at hl 2 rfl) ?_
      refine sv_put (C := "StoryMachineModel") (T := T_Mo) (N := 51) (ty := .int) hx hb hts in_Mo t_Mo tk_Mo nm_Mo hown hK (sh_in adM_map hAC) hI 0 kM_0 rfl 25 (by decide) (hts _ mw_1088) rfl (by decide +kernel) rfl rfl (Nat.le_of_ble_eq_true rfl) (Int.le_refl _) (Int.le_refl _) pM_0_25 d_Mo_good_13 (fun H locs hI => ?_)
      refine lv_aload_n hx hb d_Mo_good_16 rfl (lv_at hl 0 rfl) ?_
      refine sv_gete (C := "StoryMachineModel") (T := T_Mo) (N := 51) hx hb hts in_Mo hown hK hI 0 kM_0 rfl 25 (by decide) (hts _ mw_1088) rfl d_Mo_good_17 (fun z26 hz26 => ?_)
      refine sn_if_ne (tgt := 27) hx hb d_Mo_good_20 (by decide) (fun b27 => ?_) (fun b27 => ?_)
      · refine sn_iconst hx hb d_Mo_good_27 (by decide) (fun z28 hz28 => ?_)
        have ho29 : okM th x2.toInt dp zi co sh lt ts mf := ⟨hok.1, ⟨by omega, by omega⟩, hok.2.2.1, hok.2.2.2.1, hok.2.2.2.2.1, hok.2.2.2.2.2.1, hok.2.2.2.2.2.2.1, hok.2.2.2.2.2.2.2.1, hok.2.2.2.2.2.2.2.2⟩
        subst hZ
        exact tz_ret (W.zret (v := z28) hx hb hr (sn_bool (by omega) (by omega)).1 (fun t ht hW => ⟨⟨fun v9 hv9 => by cases hv9; exact (Or.inl ⟨z28, x2.toInt, rfl, ho29, by omega, by omega, by omega, by omega, by rw [ht]; exact hI.1⟩), fun x9 hx9 => (by cases hx9)⟩, hI.2.F ht⟩) hI.2.2.2 d_Mo_good_28)
      · omega
abbrev q_Mo_byteAt (dC : Nat → ClassId) (dI : Nat → Nat → Nat) (cI cJ : ClassId) (a : Nat → Nat) (th tr dp zi co sh lt ts : Int) (mf : Nat → Int32) (x1 : Int32) : Outcome → State → Prop := fun o t => (∀ v, o = .returned v → ((∃ (z : Int32) (tr_ : Int), v = some (.int z) ∧ okM th tr_ dp zi co sh lt ts mf ∧ (0 ≤ z.toInt) ∧ (z.toInt ≤ 0) ∧ (1 ≤ tr_) ∧ sh_I (dC, dI) vcl cI cJ (gsM a th tr_ dp zi co sh lt ts mf) t.heap) ∨ (∃ (z : Int32), v = some (.int z) ∧ okM th tr dp zi co sh lt ts mf ∧ (0 ≤ z.toInt) ∧ (z.toInt ≤ 255) ∧ (0 ≤ x1.toInt) ∧ (x1.toInt ≤ 511) ∧ (tr ≤ 0) ∧ sh_I (dC, dI) vcl cI cJ (gsM a th tr dp zi co sh lt ts mf) t.heap))) ∧ (∀ x, o = .threw x → (False))
def rm_Mo_byteAt : Room := { frames := 1, cells := 0, slots := 0, locals := 22 }
set_option maxHeartbeats 4000000 in
set_option maxRecDepth 100000 in
theorem c_Mo_byteAt (l : Launch) (hfl : l.flags = pinnedFlags ++ [noTraceFlag]) (dC : Nat → ClassId) (dI : Nat → Nat → Nat) (cI cJ : ClassId) (a : Nat → Nat) (sz : Nat) (th tr dp zi co sh lt ts : Int) (mf : Nat → Int32) (x1 : Int32) (hok : okM th tr dp zi co sh lt ts mf) : tz_Met l ⟨"StoryMachineModel", "byteAt", "(I)I"⟩ tw_tbl rm_Mo_byteAt (tzP (dC, dI) vcl cI cJ (gsM a th tr dp zi co sh lt ts mf) a (adM a) [.ref (a 0), .int x1] sz) (tq_Q (q_Mo_byteAt dC dI cI cJ a th tr dp zi co sh lt ts mf x1) (ga (adM a) sz)) 0 0 0 0 (ga (adM a) sz) := by
  refine tz_ofW (cc := prog_13_method_5_code) (maxL := 2) (ret := (some .int)) (by decide) (tx_isM mw_1236) ?_
  intro p e s m args below meth c s₁ B hml hv
  obtain ⟨rfl, hsz, hI0, hK, hst0⟩ := hv
  have hx := B.exec
  have hb := B.bytes
  have hr := B.returns
  have hts := atoms_spec (ws := tw_tbl) B.pre
  have hown : s.vm.findClass "StoryMachineModel" = some m.cls := findClass_of_methodNamed B.named
  have hlocks := B.notSynchronized
  subst hsz
  have hst := fun (H : Heap) (locs : List Loc) (hS : va_S (ga (adM a) s.heap.size) s.heap H locs) (U : State) (hU : U.heap = H) (hW : s.WarmedH U.vm) => zS_all adM_map hI0 hst0 hS hU hW
  have hAC : ∀ q ∈ adM a, ga (adM a) s.heap.size q := fun q h => Or.inl h
  have hA0 : ∀ q, s.heap.size ≤ q → ga (adM a) s.heap.size q := fun q h => Or.inr h
  have hI : sI (dC, dI) vcl cI cJ (gsM a th tr dp zi co sh lt ts mf) (ga (adM a) s.heap.size) s.heap s.heap [] := ⟨hI0, va_S.rf⟩
  clear hI0 hst0
  have hl := lv_entry ([.ref (a 0), .int x1]) (n := 2) (Nat.le_of_ble_eq_true rfl)
  rw [lg_entry_eq]
  generalize (lg_sl ([.ref (a 0), .int x1]) ++ List.replicate (2 - (lg_sl ([.ref (a 0), .int x1])).length) Slot.unset).toArray = ls at hl ⊢
  have hl : lv_has ls 2 [(0, .ref (a 0)), (1, .int x1)] := hl
  generalize hZ : tz_MQ below (tq_Q (q_Mo_byteAt dC dI cI cJ a th tr dp zi co sh lt ts mf x1) (ga (adM a) s.heap.size)) ([.ref (a 0), .int x1] : List Value).toArray s 0 0 0 0 (ga (adM a) s.heap.size) = Z
  obtain ⟨A, hAe⟩ : ∃ A, A = ga (adM a) s.heap.size := ⟨_, rfl⟩
  rw [← hAe] at hst hAC hA0 hI hZ
  refine sv_start hI (fun H locs hI => ?_)
  obtain ⟨⟨o1, o2⟩, ⟨o3, o4⟩, ⟨o5, o6⟩, ⟨o7, o8⟩, ⟨o9, o10⟩, ⟨o11, o12⟩, ⟨o13, o14⟩, ⟨o15, o16⟩, -⟩ := id hok
  have gx1 := sn_rng x1
  refine lv_aload_n hx hb d_Mo_byteAt_0 rfl (lv_at hl 0 rfl) ?_
  refine lv_iload_n hx hb d_Mo_byteAt_1 rfl (lv_at hl 1 rfl) ?_
  refine sn_if_lt (tgt := 16) hx hb d_Mo_byteAt_2 (by decide) (fun b17 => ?_) (fun b17 => ?_)
  · refine sn_iconst hx hb d_Mo_byteAt_16 (by decide) (fun z18 hz18 => ?_)
    refine sn_iconst hx hb d_Mo_byteAt_17 (by decide) (fun z19 hz19 => ?_)
    refine tz_call (A1 := ga (adM a) H.size) (tz_runV (C := "StoryMachineModel") (As := [.int z18, .int z19]) (rest := []) ⟨hx, hb, hml, hown, hts⟩ (c_Mo_good l hfl dC dI cI cJ a H.size th tr dp zi co sh lt ts mf z18 z19 hok (by omega) (by omega) (by omega) (by omega)) (tx_cb (n := 2) hts rfl rfl ⟨Nat.le_of_ble_eq_true rfl, Nat.le_of_ble_eq_true rfl⟩ (tx_code.of (hts _ mw_1240)) (hts _ mw_12) (by decide +kernel) (hts _ mw_1237)) (hts _ mw_1239) (hts _ ms_Mo_good) ⟨tz_blind, sv_recv (q0 := 0) hts in_Mo hK hI kM_0 rfl, fun U hU hW => ⟨rfl, by rw [hU], by rw [hU]; exact hI.1, va_K.moved hW.alike hK, hst _ _ hI.2 U hU hW⟩⟩ rfl rfl hl.1 rfl (lv_room (Nat.le_of_ble_eq_true rfl)) d_Mo_byteAt_18 ⟨Nat.le_of_ble_eq_true rfl, Nat.le_of_ble_eq_true rfl⟩) hI.2 (fun q _ h => ga_sub hAC hA0 hI.2 q h) (ga_sub hAC hA0 hI.2) (fun v t H1 locs1 ht hWt hpost _ _ hS => ?_) (fun x t H1 locs1 ht hWt hpost _ _ hS => (hpost.2 x rfl).elim)
    rcases hpost.1 _ rfl with ⟨z20, t_tr21, hv, c22, c22_0, c22_1, c22_2, c22_3, hI1⟩ | ⟨z23, hv, c24, c24_0, c24_1, c24_2, c24_3, hI1⟩
    · cases hv
      have hI : sI (dC, dI) vcl cI cJ (gsM a th t_tr21 dp zi co sh lt ts mf) A s.heap H1 locs1 := ⟨by rw [← ht]; exact hI1, hS⟩
      obtain ⟨-, ⟨o25, o26⟩, -, -, -, -, -, -, -⟩ := id c22
      clear hpost hI1 hS ht hWt
      revert hI; generalize H1 = H; generalize locs1 = locs; intro hI
      refine sn_if_eq (tgt := 33) hx hb d_Mo_byteAt_21 (by decide) (fun b27 => ?_) (fun b27 => ?_)
      · refine sn_iconst hx hb d_Mo_byteAt_33 (by decide) (fun z28 hz28 => ?_)
        subst hZ
        exact tz_ret (W.iret (v := z28) hx hb hr (fun t ht hW => ⟨⟨fun v9 hv9 => by cases hv9; exact (Or.inl ⟨z28, t_tr21, rfl, c22, by omega, by omega, by omega, by rw [ht]; exact hI.1⟩), fun x9 hx9 => (by cases hx9)⟩, hI.2.F ht⟩) hI.2.2.2 d_Mo_byteAt_34)
      · omega
    · omega
  · refine lv_iload_n hx hb d_Mo_byteAt_5 rfl (lv_at hl 1 rfl) ?_
    refine sn_sipush hx hb d_Mo_byteAt_6 (by decide) (fun z29 hz29 => ?_)
    refine sn_icmp_ge (tgt := 16) hx hb d_Mo_byteAt_9 (by decide) (fun b30 => ?_) (fun b30 => ?_)
    · refine sn_iconst hx hb d_Mo_byteAt_16 (by decide) (fun z31 hz31 => ?_)
      refine sn_iconst hx hb d_Mo_byteAt_17 (by decide) (fun z32 hz32 => ?_)
      refine tz_call (A1 := ga (adM a) H.size) (tz_runV (C := "StoryMachineModel") (As := [.int z31, .int z32]) (rest := []) ⟨hx, hb, hml, hown, hts⟩ (c_Mo_good l hfl dC dI cI cJ a H.size th tr dp zi co sh lt ts mf z31 z32 hok (by omega) (by omega) (by omega) (by omega)) (tx_cb (n := 2) hts rfl rfl ⟨Nat.le_of_ble_eq_true rfl, Nat.le_of_ble_eq_true rfl⟩ (tx_code.of (hts _ mw_1240)) (hts _ mw_12) (by decide +kernel) (hts _ mw_1237)) (hts _ mw_1239) (hts _ ms_Mo_good) ⟨tz_blind, sv_recv (q0 := 0) hts in_Mo hK hI kM_0 rfl, fun U hU hW => ⟨rfl, by rw [hU], by rw [hU]; exact hI.1, va_K.moved hW.alike hK, hst _ _ hI.2 U hU hW⟩⟩ rfl rfl hl.1 rfl (lv_room (Nat.le_of_ble_eq_true rfl)) d_Mo_byteAt_18 ⟨Nat.le_of_ble_eq_true rfl, Nat.le_of_ble_eq_true rfl⟩) hI.2 (fun q _ h => ga_sub hAC hA0 hI.2 q h) (ga_sub hAC hA0 hI.2) (fun v t H1 locs1 ht hWt hpost _ _ hS => ?_) (fun x t H1 locs1 ht hWt hpost _ _ hS => (hpost.2 x rfl).elim)
      rcases hpost.1 _ rfl with ⟨z33, t_tr34, hv, c35, c35_0, c35_1, c35_2, c35_3, hI1⟩ | ⟨z36, hv, c37, c37_0, c37_1, c37_2, c37_3, hI1⟩
      · cases hv
        have hI : sI (dC, dI) vcl cI cJ (gsM a th t_tr34 dp zi co sh lt ts mf) A s.heap H1 locs1 := ⟨by rw [← ht]; exact hI1, hS⟩
        obtain ⟨-, ⟨o38, o39⟩, -, -, -, -, -, -, -⟩ := id c35
        clear hpost hI1 hS ht hWt
        revert hI; generalize H1 = H; generalize locs1 = locs; intro hI
        refine sn_if_eq (tgt := 33) hx hb d_Mo_byteAt_21 (by decide) (fun b40 => ?_) (fun b40 => ?_)
        · refine sn_iconst hx hb d_Mo_byteAt_33 (by decide) (fun z41 hz41 => ?_)
          subst hZ
          exact tz_ret (W.iret (v := z41) hx hb hr (fun t ht hW => ⟨⟨fun v9 hv9 => by cases hv9; exact (Or.inl ⟨z41, t_tr34, rfl, c35, by omega, by omega, by omega, by rw [ht]; exact hI.1⟩), fun x9 hx9 => (by cases hx9)⟩, hI.2.F ht⟩) hI.2.2.2 d_Mo_byteAt_34)
        · omega
      · omega
    · refine sn_iconst hx hb d_Mo_byteAt_12 (by decide) (fun z42 hz42 => ?_)
      refine lv_goto (tgt := 17) hx hb d_Mo_byteAt_13 (by decide) ?_
      refine sn_iconst hx hb d_Mo_byteAt_17 (by decide) (fun z43 hz43 => ?_)
      refine tz_call (A1 := ga (adM a) H.size) (tz_runV (C := "StoryMachineModel") (As := [.int z42, .int z43]) (rest := []) ⟨hx, hb, hml, hown, hts⟩ (c_Mo_good l hfl dC dI cI cJ a H.size th tr dp zi co sh lt ts mf z42 z43 hok (by omega) (by omega) (by omega) (by omega)) (tx_cb (n := 2) hts rfl rfl ⟨Nat.le_of_ble_eq_true rfl, Nat.le_of_ble_eq_true rfl⟩ (tx_code.of (hts _ mw_1240)) (hts _ mw_12) (by decide +kernel) (hts _ mw_1237)) (hts _ mw_1239) (hts _ ms_Mo_good) ⟨tz_blind, sv_recv (q0 := 0) hts in_Mo hK hI kM_0 rfl, fun U hU hW => ⟨rfl, by rw [hU], by rw [hU]; exact hI.1, va_K.moved hW.alike hK, hst _ _ hI.2 U hU hW⟩⟩ rfl rfl hl.1 rfl (lv_room (Nat.le_of_ble_eq_true rfl)) d_Mo_byteAt_18 ⟨Nat.le_of_ble_eq_true rfl, Nat.le_of_ble_eq_true rfl⟩) hI.2 (fun q _ h => ga_sub hAC hA0 hI.2 q h) (ga_sub hAC hA0 hI.2) (fun v t H1 locs1 ht hWt hpost _ _ hS => ?_) (fun x t H1 locs1 ht hWt hpost _ _ hS => (hpost.2 x rfl).elim)
      rcases hpost.1 _ rfl with ⟨z44, t_tr45, hv, c46, c46_0, c46_1, c46_2, c46_3, hI1⟩ | ⟨z47, hv, c48, c48_0, c48_1, c48_2, c48_3, hI1⟩
      · cases hv
        have hI : sI (dC, dI) vcl cI cJ (gsM a th t_tr45 dp zi co sh lt ts mf) A s.heap H1 locs1 := ⟨by rw [← ht]; exact hI1, hS⟩
        obtain ⟨-, ⟨o49, o50⟩, -, -, -, -, -, -, -⟩ := id c46
        clear hpost hI1 hS ht hWt
        revert hI; generalize H1 = H; generalize locs1 = locs; intro hI
        refine sn_if_eq (tgt := 33) hx hb d_Mo_byteAt_21 (by decide) (fun b51 => ?_) (fun b51 => ?_)
        · refine sn_iconst hx hb d_Mo_byteAt_33 (by decide) (fun z52 hz52 => ?_)
          subst hZ
          exact tz_ret (W.iret (v := z52) hx hb hr (fun t ht hW => ⟨⟨fun v9 hv9 => by cases hv9; exact (Or.inl ⟨z52, t_tr45, rfl, c46, by omega, by omega, by omega, by rw [ht]; exact hI.1⟩), fun x9 hx9 => (by cases hx9)⟩, hI.2.F ht⟩) hI.2.2.2 d_Mo_byteAt_34)
        · omega
      · cases hv
        have hI : sI (dC, dI) vcl cI cJ (gsM a th tr dp zi co sh lt ts mf) A s.heap H1 locs1 := ⟨by rw [← ht]; exact hI1, hS⟩
        clear hpost hI1 hS ht hWt
        revert hI; generalize H1 = H; generalize locs1 = locs; intro hI
        refine sn_if_eq (tgt := 33) hx hb d_Mo_byteAt_21 (by decide) (fun b53 => ?_) (fun b53 => ?_)
        · omega
        · refine lv_aload_n hx hb d_Mo_byteAt_24 rfl (lv_at hl 0 rfl) ?_
          refine sv_getr (C := "StoryMachineModel") (T := T_Mo) (N := 51) hx hb hts in_Mo hown hK hI 0 kM_0 rfl 1 (by decide) (hts _ mw_1064) rfl d_Mo_byteAt_25 ?_
          refine lv_iload_n hx hb d_Mo_byteAt_28 rfl (lv_at hl 1 rfl) ?_
          refine sv_ialde hx hb hK hI 1 kM_1 (by omega) (by omega) d_Mo_byteAt_29 (fun z54 hz54 => ?_)
          have hz54r := c48.2.2.2.2.2.2.2.2 (x1.toNatClampNeg)
          rw [← hz54] at hz54r
          have hz54x : z54.toInt = (mf x1.toInt.toNat).toInt := by rw [hz54]; rfl
          refine lv_goto (tgt := 34) hx hb d_Mo_byteAt_30 (by decide) ?_
          subst hZ
          exact tz_ret (W.iret (v := z54) hx hb hr (fun t ht hW => ⟨⟨fun v9 hv9 => by cases hv9; exact (Or.inr (⟨z54, rfl, c48, by omega, by omega, by omega, by omega, by omega, by rw [ht]; exact hI.1⟩)), fun x9 hx9 => (by cases hx9)⟩, hI.2.F ht⟩) hI.2.2.2 d_Mo_byteAt_34)
abbrev q_Mo_code (dC : Nat → ClassId) (dI : Nat → Nat → Nat) (cI cJ : ClassId) (a : Nat → Nat) (th tr dp zi co sh lt ts : Int) (mf : Nat → Int32) : Outcome → State → Prop := fun o t => (∀ v, o = .returned v → ((∃ (z : Int32) (tr_ : Int), v = some (.int z) ∧ okM th tr_ dp zi co sh lt ts mf ∧ (0 ≤ z.toInt) ∧ (z.toInt ≤ 0) ∧ (1 ≤ tr_) ∧ sh_I (dC, dI) vcl cI cJ (gsM a th tr_ dp zi co sh lt ts mf) t.heap) ∨ (∃ (z : Int32), v = some (.int z) ∧ okM th tr dp zi co sh lt ts mf ∧ (0 ≤ z.toInt) ∧ (z.toInt ≤ 255) ∧ (tr ≤ 0) ∧ sh_I (dC, dI) vcl cI cJ (gsM a th tr dp zi co sh lt ts mf) t.heap))) ∧ (∀ x, o = .threw x → (False))
def rm_Mo_code : Room := { frames := 2, cells := 0, slots := 0, locals := 43 }
set_option maxHeartbeats 4000000 in
set_option maxRecDepth 100000 in
theorem c_Mo_code (l : Launch) (hfl : l.flags = pinnedFlags ++ [noTraceFlag]) (dC : Nat → ClassId) (dI : Nat → Nat → Nat) (cI cJ : ClassId) (a : Nat → Nat) (sz : Nat) (th tr dp zi co sh lt ts : Int) (mf : Nat → Int32) (hok : okM th tr dp zi co sh lt ts mf) : tz_Met l ⟨"StoryMachineModel", "code", "()I"⟩ tw_tbl rm_Mo_code (tzP (dC, dI) vcl cI cJ (gsM a th tr dp zi co sh lt ts mf) a (adM a) [.ref (a 0)] sz) (tq_Q (q_Mo_code dC dI cI cJ a th tr dp zi co sh lt ts mf) (ga (adM a) sz)) 0 0 0 0 (ga (adM a) sz) := by
  refine tz_ofW (cc := prog_13_method_35_code) (maxL := 1) (ret := (some .int)) (by decide) (tx_isM mw_1232) ?_
  intro p e s m args below meth c s₁ B hml hv
  obtain ⟨rfl, hsz, hI0, hK, hst0⟩ := hv
  have hx := B.exec
  have hb := B.bytes
  have hr := B.returns
  have hts := atoms_spec (ws := tw_tbl) B.pre
  have hown : s.vm.findClass "StoryMachineModel" = some m.cls := findClass_of_methodNamed B.named
  have hlocks := B.notSynchronized
  subst hsz
  have hst := fun (H : Heap) (locs : List Loc) (hS : va_S (ga (adM a) s.heap.size) s.heap H locs) (U : State) (hU : U.heap = H) (hW : s.WarmedH U.vm) => zS_all adM_map hI0 hst0 hS hU hW
  have hAC : ∀ q ∈ adM a, ga (adM a) s.heap.size q := fun q h => Or.inl h
  have hA0 : ∀ q, s.heap.size ≤ q → ga (adM a) s.heap.size q := fun q h => Or.inr h
  have hI : sI (dC, dI) vcl cI cJ (gsM a th tr dp zi co sh lt ts mf) (ga (adM a) s.heap.size) s.heap s.heap [] := ⟨hI0, va_S.rf⟩
  clear hI0 hst0
  have hl := lv_entry ([.ref (a 0)]) (n := 1) (Nat.le_of_ble_eq_true rfl)
  rw [lg_entry_eq]
  generalize (lg_sl ([.ref (a 0)]) ++ List.replicate (1 - (lg_sl ([.ref (a 0)])).length) Slot.unset).toArray = ls at hl ⊢
  have hl : lv_has ls 1 [(0, .ref (a 0))] := hl
  generalize hZ : tz_MQ below (tq_Q (q_Mo_code dC dI cI cJ a th tr dp zi co sh lt ts mf) (ga (adM a) s.heap.size)) ([.ref (a 0)] : List Value).toArray s 0 0 0 0 (ga (adM a) s.heap.size) = Z
  obtain ⟨A, hAe⟩ : ∃ A, A = ga (adM a) s.heap.size := ⟨_, rfl⟩
  rw [← hAe] at hst hAC hA0 hI hZ
  refine sv_start hI (fun H locs hI => ?_)
  obtain ⟨⟨o1, o2⟩, ⟨o3, o4⟩, ⟨o5, o6⟩, ⟨o7, o8⟩, ⟨o9, o10⟩, ⟨o11, o12⟩, ⟨o13, o14⟩, ⟨o15, o16⟩, -⟩ := id hok
  refine lv_aload_n hx hb d_Mo_code_0 rfl (lv_at hl 0 rfl) ?_
  refine lv_dup hx hb d_Mo_code_1 rfl ?_
  refine sv_get (C := "StoryMachineModel") (T := T_Mo) (N := 51) hx hb hts in_Mo hown hK hI 0 kM_0 rfl 28 (by decide) (hts _ mw_1091) rfl d_Mo_code_2 (fun z17 hz17a hz17b => ?_)
  refine sn_iconst hx hb d_Mo_code_5 (by decide) (fun z18 hz18 => ?_)
  refine sn_iaddT hx hb d_Mo_code_6 (fun z19 hz19a hz19b => ?_)
  refine sv_put (C := "StoryMachineModel") (T := T_Mo) (N := 51) (ty := .int) hx hb hts in_Mo t_Mo tk_Mo nm_Mo hown hK (sh_in adM_map hAC) hI 0 kM_0 rfl 28 (by decide) (hts _ mw_1091) rfl (by decide +kernel) rfl rfl (Nat.le_of_ble_eq_true rfl) (by omega) (by omega) pM_0_28 d_Mo_code_7 (fun H locs hI => ?_)
  refine lv_aload_n hx hb d_Mo_code_10 rfl (lv_at hl 0 rfl) ?_
  refine lv_aload_n hx hb d_Mo_code_11 rfl (lv_at hl 0 rfl) ?_
  refine sv_get (C := "StoryMachineModel") (T := T_Mo) (N := 51) hx hb hts in_Mo hown hK hI 0 kM_0 rfl 28 (by decide) (hts _ mw_1091) rfl d_Mo_code_12 (fun z20 hz20a hz20b => ?_)
  refine sn_iconst hx hb d_Mo_code_15 (by decide) (fun z21 hz21 => ?_)
  refine sn_isubT hx hb d_Mo_code_16 (fun z22 hz22a hz22b => ?_)
  refine tz_call (A1 := ga (adM a) H.size) (tz_runV (C := "StoryMachineModel") (As := [.int z22]) (rest := []) ⟨hx, hb, hml, hown, hts⟩ (c_Mo_byteAt l hfl dC dI cI cJ a H.size th tr dp zi co sh lt ts mf z22 hok) (tx_cb (n := 1) hts rfl rfl ⟨Nat.le_of_ble_eq_true rfl, Nat.le_of_ble_eq_true rfl⟩ (tx_code.of (hts _ mw_1236)) (hts _ mw_12) (by decide +kernel) (hts _ mw_1233)) (hts _ mw_1235) (hts _ ms_Mo_byteAt) ⟨tz_blind, sv_recv (q0 := 0) hts in_Mo hK hI kM_0 rfl, fun U hU hW => ⟨rfl, by rw [hU], by rw [hU]; exact hI.1, va_K.moved hW.alike hK, hst _ _ hI.2 U hU hW⟩⟩ rfl rfl hl.1 rfl (lv_room (Nat.le_of_ble_eq_true rfl)) d_Mo_code_17 ⟨Nat.le_of_ble_eq_true rfl, Nat.le_of_ble_eq_true rfl⟩) hI.2 (fun q _ h => ga_sub hAC hA0 hI.2 q h) (ga_sub hAC hA0 hI.2) (fun v t H1 locs1 ht hWt hpost _ _ hS => ?_) (fun x t H1 locs1 ht hWt hpost _ _ hS => (hpost.2 x rfl).elim)
  rcases hpost.1 _ rfl with ⟨z23, t_tr24, hv, c25, c25_0, c25_1, c25_2, hI1⟩ | ⟨z26, hv, c27, c27_0, c27_1, c27_2, c27_3, c27_4, hI1⟩
  · cases hv
    have hI : sI (dC, dI) vcl cI cJ (gsM a th t_tr24 dp zi co sh lt ts mf) A s.heap H1 locs1 := ⟨by rw [← ht]; exact hI1, hS⟩
    obtain ⟨-, ⟨o28, o29⟩, -, -, -, -, -, -, -⟩ := id c25
    clear hpost hI1 hS ht hWt
    revert hI; generalize H1 = H; generalize locs1 = locs; intro hI
    subst hZ
    exact tz_ret (W.iret (v := z23) hx hb hr (fun t ht hW => ⟨⟨fun v9 hv9 => by cases hv9; exact (Or.inl ⟨z23, t_tr24, rfl, c25, by omega, by omega, by omega, by rw [ht]; exact hI.1⟩), fun x9 hx9 => (by cases hx9)⟩, hI.2.F ht⟩) hI.2.2.2 d_Mo_code_20)
  · cases hv
    have hI : sI (dC, dI) vcl cI cJ (gsM a th tr dp zi co sh lt ts mf) A s.heap H1 locs1 := ⟨by rw [← ht]; exact hI1, hS⟩
    clear hpost hI1 hS ht hWt
    revert hI; generalize H1 = H; generalize locs1 = locs; intro hI
    subst hZ
    exact tz_ret (W.iret (v := z26) hx hb hr (fun t ht hW => ⟨⟨fun v9 hv9 => by cases hv9; exact (Or.inr (⟨z26, rfl, c27, by omega, by omega, by omega, by rw [ht]; exact hI.1⟩)), fun x9 hx9 => (by cases hx9)⟩, hI.2.F ht⟩) hI.2.2.2 d_Mo_code_20)
