abbrev q_Mo_run (dC : Nat → ClassId) (dI : Nat → Nat → Nat) (cI cJ : ClassId) (a : Nat → Nat) (th tr dp zi co sh lt ts : Int) (mf : Nat → Int32) (x1 : Int32) : Outcome → State → Prop := fun o t => (∀ v, o = .returned v → ((∃ (z : Int32) (th_ tr_ dp_ zi_ co_ sh_ lt_ : Int) (mf_ : Nat → Int32), v = some (.int z) ∧ okM th_ tr_ dp_ zi_ co_ sh_ lt_ ts mf_ ∧ (0 ≤ z.toInt) ∧ (z.toInt ≤ 5) ∧ (sh_ ≤ sh + 3003000) ∧ sh_I (dC, dI) vcl cI cJ (gsM a th_ tr_ dp_ zi_ co_ sh_ lt_ ts mf_) t.heap))) ∧ (∀ x, o = .threw x → (False))
def rm_Mo_run : Room := { frames := 11, cells := 0, slots := 0, locals := 254 }
set_option maxHeartbeats 4000000 in
set_option maxRecDepth 100000 in
theorem c_Mo_run (l : Launch) (hfl : l.flags = pinnedFlags ++ [noTraceFlag]) (dC : Nat → ClassId) (dI : Nat → Nat → Nat) (cI cJ : ClassId) (a : Nat → Nat) (sz : Nat) (th tr dp zi co sh lt ts : Int) (mf : Nat → Int32) (x1 : Int32) (hok : okM th tr dp zi co sh lt ts mf) (hp0 : sh ≤ 1996997000) : tz_Met l ⟨"StoryMachineModel", "run", "(I)I"⟩ tw_tbl rm_Mo_run (tzP (dC, dI) vcl cI cJ (gsM a th tr dp zi co sh lt ts mf) a (adM a) [.ref (a 0), .int x1] sz) (tq_Q (q_Mo_run dC dI cI cJ a th tr dp zi co sh lt ts mf x1) (ga (adM a) sz)) 0 0 0 0 (ga (adM a) sz) := by
  refine tz_ofW (cc := prog_13_method_72_code) (maxL := 3) (ret := (some .int)) (by decide) (tx_isM mw_1224) ?_
  intro p e s m args below meth c s₁ B hml hv
  obtain ⟨rfl, hsz, hI0, hK, hst0⟩ := hv
  have hx := B.exec
  have hb := B.bytes
  have hr := B.returns
  have hts := atoms_spec (ws := tw_tbl) B.pre
  have hown : s.vm.findClass "StoryMachineModel" = some m.cls := findClass_of_methodNamed B.named
  have hlocks := B.notSynchronized
  subst hsz
  have hst := fun (H : Heap) (locs : List Loc) (hS : va_S (ga (adM a) s.heap.size) s.heap H locs) (U : State) (hU : U.heap = H) (hW : s.WarmedH U.vm) => zS_all adM_map hI0 hst0 hS hU hW
  have hAC : ∀ q ∈ adM a, ga (adM a) s.heap.size q := fun q h => Or.inl h
  have hA0 : ∀ q, s.heap.size ≤ q → ga (adM a) s.heap.size q := fun q h => Or.inr h
  have hI : sI (dC, dI) vcl cI cJ (gsM a th tr dp zi co sh lt ts mf) (ga (adM a) s.heap.size) s.heap s.heap [] := ⟨hI0, va_S.rf⟩
  clear hI0 hst0
  have hl := lv_entry ([.ref (a 0), .int x1]) (n := 3) (Nat.le_of_ble_eq_true rfl)
  rw [lg_entry_eq]
  generalize (lg_sl ([.ref (a 0), .int x1]) ++ List.replicate (3 - (lg_sl ([.ref (a 0), .int x1])).length) Slot.unset).toArray = ls at hl ⊢
  have hl : lv_has ls 3 [(0, .ref (a 0)), (1, .int x1)] := hl
  generalize hZ : tz_MQ below (tq_Q (q_Mo_run dC dI cI cJ a th tr dp zi co sh lt ts mf x1) (ga (adM a) s.heap.size)) ([.ref (a 0), .int x1] : List Value).toArray s 0 0 0 0 (ga (adM a) s.heap.size) = Z
  obtain ⟨A, hAe⟩ : ∃ A, A = ga (adM a) s.heap.size := ⟨_, rfl⟩
  rw [← hAe] at hst hAC hA0 hI hZ
  refine sv_start hI (fun H locs hI => ?_)
  obtain ⟨⟨o1, o2⟩, ⟨o3, o4⟩, ⟨o5, o6⟩, ⟨o7, o8⟩, ⟨o9, o10⟩, ⟨o11, o12⟩, ⟨o13, o14⟩, ⟨o15, o16⟩, -⟩ := id hok
  have gx1 := sn_rng x1
  have j115 : ∀ (H : Heap) (locs : List Loc) (ls : Array Slot) (v115_2 : Int32) (t115_th t115_tr t115_dp t115_zi t115_co t115_sh t115_lt : Int) (t115_mf : Nat → Int32), sI (dC, dI) vcl cI cJ (gsM a t115_th t115_tr t115_dp t115_zi t115_co t115_sh t115_lt ts t115_mf) A s.heap H locs → okM t115_th t115_tr t115_dp t115_zi t115_co t115_sh t115_lt ts t115_mf → 0 ≤ v115_2.toInt → v115_2.toInt ≤ 300 → 0 ≤ t115_th → t115_th ≤ 0 → 1 ≤ x1.toInt → x1.toInt ≤ 300 → t115_sh ≤ sh + 3003000 → lv_has ls 3 [(0, .ref (a 0)), (1, .int x1), (2, .int v115_2)] → W p l e (headSpec tw_tbl rm_Mo_run).room s m ([.ref (a 0), .int x1] : List Value).toArray below meth c H locs 0 0 Z (F0 m 115 ls []) := by
    intro H locs ls v115_2 t115_th t115_tr t115_dp t115_zi t115_co t115_sh t115_lt t115_mf hI hok g115_0 g115_1 g115_2 g115_3 g115_4 g115_5 g115_6 hl
    obtain ⟨⟨o17, o18⟩, ⟨o19, o20⟩, ⟨o21, o22⟩, ⟨o23, o24⟩, ⟨o25, o26⟩, ⟨o27, o28⟩, ⟨o29, o30⟩, ⟨o31, o32⟩, -⟩ := id hok
    refine lv_aload_n hx hb d_Mo_run_115 rfl (lv_at hl 0 rfl) ?_
    refine sv_get (C := "StoryMachineModel") (T := T_Mo) (N := 51) hx hb hts in_Mo hown hK hI 0 kM_0 rfl 24 (by decide) (hts _ mw_1087) rfl d_Mo_run_116 (fun z33 hz33a hz33b => ?_)
    subst hZ
    exact tz_ret (W.iret (v := z33) hx hb hr (fun t ht hW => ⟨⟨fun v9 hv9 => by cases hv9; exact (⟨z33, t115_th, t115_tr, t115_dp, t115_zi, t115_co, t115_sh, t115_lt, t115_mf, rfl, hok, by omega, by omega, by omega, by rw [ht]; exact hI.1⟩), fun x9 hx9 => (by cases hx9)⟩, hI.2.F ht⟩) hI.2.2.2 d_Mo_run_119)
  have j63 : ∀ (n : Nat) (H : Heap) (locs : List Loc) (ls : Array Slot) (v63_2 : Int32) (t63_th t63_tr t63_dp t63_zi t63_co t63_sh t63_lt : Int) (t63_mf : Nat → Int32), sI (dC, dI) vcl cI cJ (gsM a t63_th t63_tr t63_dp t63_zi t63_co t63_sh t63_lt ts t63_mf) A s.heap H locs → okM t63_th t63_tr t63_dp t63_zi t63_co t63_sh t63_lt ts t63_mf → 0 ≤ v63_2.toInt → v63_2.toInt ≤ 300 → 0 ≤ t63_th → t63_th ≤ 0 → 1 ≤ x1.toInt → x1.toInt ≤ 300 → t63_sh ≤ sh + 10010 * v63_2.toInt → lv_has ls 3 [(0, .ref (a 0)), (1, .int x1), (2, .int v63_2)] → 300 - v63_2.toInt < (n : Int) → W p l e (headSpec tw_tbl rm_Mo_run).room s m ([.ref (a 0), .int x1] : List Value).toArray below meth c H locs 0 0 Z (F0 m 63 ls []) := by
    intro n
    induction n with
    | zero => intro H locs ls v63_2 t63_th t63_tr t63_dp t63_zi t63_co t63_sh t63_lt t63_mf hI hok g63_0 g63_1 g63_2 g63_3 g63_4 g63_5 g63_6 hl hme; exfalso; obtain ⟨⟨o34, o35⟩, ⟨o36, o37⟩, ⟨o38, o39⟩, ⟨o40, o41⟩, ⟨o42, o43⟩, ⟨o44, o45⟩, ⟨o46, o47⟩, ⟨o48, o49⟩, -⟩ := id hok; omega
    | succ n ih =>
      intro H locs ls v63_2 t63_th t63_tr t63_dp t63_zi t63_co t63_sh t63_lt t63_mf hI hok g63_0 g63_1 g63_2 g63_3 g63_4 g63_5 g63_6 hl hme
      obtain ⟨⟨o50, o51⟩, ⟨o52, o53⟩, ⟨o54, o55⟩, ⟨o56, o57⟩, ⟨o58, o59⟩, ⟨o60, o61⟩, ⟨o62, o63⟩, ⟨o64, o65⟩, -⟩ := id hok
      refine lv_iload_n hx hb d_Mo_run_63 rfl (lv_at hl 2 rfl) ?_
      refine lv_iload_n hx hb d_Mo_run_64 rfl (lv_at hl 1 rfl) ?_
      refine sn_icmp_ge (tgt := 115) hx hb d_Mo_run_65 (by decide) (fun b66 => ?_) (fun b66 => ?_)
      · exact j115 _ _ _ v63_2 t63_th t63_tr t63_dp t63_zi t63_co t63_sh t63_lt t63_mf hI hok (by omega) (by omega) (by omega) (by omega) (by omega) (by omega) (by omega) (lv_sub hl [0, 1, 2] rfl)
      · refine lv_aload_n hx hb d_Mo_run_68 rfl (lv_at hl 0 rfl) ?_
        refine sv_get (C := "StoryMachineModel") (T := T_Mo) (N := 51) hx hb hts in_Mo hown hK hI 0 kM_0 rfl 24 (by decide) (hts _ mw_1087) rfl d_Mo_run_69 (fun z67 hz67a hz67b => ?_)
        refine sn_if_ne (tgt := 115) hx hb d_Mo_run_72 (by decide) (fun b68 => ?_) (fun b68 => ?_)
        · exact j115 _ _ _ v63_2 t63_th t63_tr t63_dp t63_zi t63_co t63_sh t63_lt t63_mf hI hok (by omega) (by omega) (by omega) (by omega) (by omega) (by omega) (by omega) (lv_sub hl [0, 1, 2] rfl)
        · refine lv_aload_n hx hb d_Mo_run_75 rfl (lv_at hl 0 rfl) ?_
          refine tz_call (A1 := ga (adM a) H.size) (tz_runV (C := "StoryMachineModel") (As := []) (rest := []) ⟨hx, hb, hml, hown, hts⟩ (c_Mo_step l hfl dC dI cI cJ a H.size t63_th t63_tr t63_dp t63_zi t63_co t63_sh t63_lt ts t63_mf  hok (by omega)) (tx_cb (n := 0) hts rfl rfl ⟨Nat.le_of_ble_eq_true rfl, Nat.le_of_ble_eq_true rfl⟩ (tx_code.of (hts _ mw_1228)) (hts _ mw_12) (by decide +kernel) (hts _ mw_1225)) (hts _ mw_1227) (hts _ ms_Mo_step) ⟨tz_blind, sv_recv (q0 := 0) hts in_Mo hK hI kM_0 rfl, fun U hU hW => ⟨rfl, by rw [hU], by rw [hU]; exact hI.1, va_K.moved hW.alike hK, hst _ _ hI.2 U hU hW⟩⟩ rfl rfl hl.1 rfl (lv_room (Nat.le_of_ble_eq_true rfl)) d_Mo_run_76 ⟨Nat.le_of_ble_eq_true rfl, Nat.le_of_ble_eq_true rfl⟩) hI.2 (fun q _ h => ga_sub hAC hA0 hI.2 q h) (ga_sub hAC hA0 hI.2) (fun v t H1 locs1 ht hWt hpost _ _ hS => ?_) (fun x t H1 locs1 ht hWt hpost _ _ hS => (hpost.2 x rfl).elim)
          rcases hpost.1 _ rfl with ⟨t_tr69, t_dp70, t_zi71, t_co72, t_sh73, t_lt74, f_mf75, hv, c76, c76_0, c76_1, hI1⟩ | ⟨t_tr77, t_dp78, t_zi79, t_co80, t_sh81, t_lt82, f_mf83, hv, c84, c84_0, c84_1, hI1⟩
          · cases hv
            have hI : sI (dC, dI) vcl cI cJ (gsM a t63_th t_tr69 t_dp70 t_zi71 t_co72 t_sh73 t_lt74 ts f_mf75) A s.heap H1 locs1 := ⟨by rw [← ht]; exact hI1, hS⟩
            obtain ⟨-, ⟨o85, o86⟩, ⟨o87, o88⟩, ⟨o89, o90⟩, ⟨o91, o92⟩, ⟨o93, o94⟩, ⟨o95, o96⟩, -, -⟩ := id c76
            clear hpost hI1 hS ht hWt
            revert hI; generalize H1 = H; generalize locs1 = locs; intro hI
            refine lv_aload_n hx hb d_Mo_run_79 rfl (lv_at hl 0 rfl) ?_
            refine lv_aload_n hx hb d_Mo_run_80 rfl (lv_at hl 0 rfl) ?_
            refine sv_gete (C := "StoryMachineModel") (T := T_Mo) (N := 51) hx hb hts in_Mo hown hK hI 0 kM_0 rfl 25 (by decide) (hts _ mw_1088) rfl d_Mo_run_81 (fun z97 hz97 => ?_)
            refine sn_if_le (tgt := 94) hx hb d_Mo_run_84 (by decide) (fun b98 => ?_) (fun b98 => ?_)
            · omega
            · refine lv_aload_n hx hb d_Mo_run_87 rfl (lv_at hl 0 rfl) ?_
              refine sv_gete (C := "StoryMachineModel") (T := T_Mo) (N := 51) hx hb hts in_Mo hown hK hI 0 kM_0 rfl 25 (by decide) (hts _ mw_1088) rfl d_Mo_run_88 (fun z99 hz99 => ?_)
              refine lv_goto (tgt := 106) hx hb d_Mo_run_91 (by decide) ?_
              refine sv_put (C := "StoryMachineModel") (T := T_Mo) (N := 51) (ty := .int) hx hb hts in_Mo t_Mo tk_Mo nm_Mo hown hK (sh_in adM_map hAC) hI 0 kM_0 rfl 24 (by decide) (hts _ mw_1087) rfl (by decide +kernel) rfl rfl (Nat.le_of_ble_eq_true rfl) (by omega) (by omega) pM_0_24 d_Mo_run_106 (fun H locs hI => ?_)
              refine sn_iinc (k := 2) hx hb d_Mo_run_109 hl rfl (by decide) (by decide) (by omega) (by omega) (fun ls z100 hz100 hl => ?_)
              have hl : lv_has ls 3 [(2, .int z100), (0, .ref (a 0)), (1, .int x1)] := hl
              refine lv_goto (tgt := 63) hx hb d_Mo_run_112 (by decide) ?_
              exact ih _ _ _ z100 t63_th t_tr69 t_dp70 t_zi71 t_co72 t_sh73 t_lt74 f_mf75 hI c76 (by omega) (by omega) (by omega) (by omega) (by omega) (by omega) (by omega) (lv_sub hl [1, 2, 0] rfl) (by omega)
          · cases hv
            have hI : sI (dC, dI) vcl cI cJ (gsM a t63_th t_tr77 t_dp78 t_zi79 t_co80 t_sh81 t_lt82 ts f_mf83) A s.heap H1 locs1 := ⟨by rw [← ht]; exact hI1, hS⟩
            obtain ⟨-, ⟨o101, o102⟩, ⟨o103, o104⟩, ⟨o105, o106⟩, ⟨o107, o108⟩, ⟨o109, o110⟩, ⟨o111, o112⟩, -, -⟩ := id c84
            clear hpost hI1 hS ht hWt
            revert hI; generalize H1 = H; generalize locs1 = locs; intro hI
            refine lv_aload_n hx hb d_Mo_run_79 rfl (lv_at hl 0 rfl) ?_
            refine lv_aload_n hx hb d_Mo_run_80 rfl (lv_at hl 0 rfl) ?_
            refine sv_gete (C := "StoryMachineModel") (T := T_Mo) (N := 51) hx hb hts in_Mo hown hK hI 0 kM_0 rfl 25 (by decide) (hts _ mw_1088) rfl d_Mo_run_81 (fun z113 hz113 => ?_)
            refine sn_if_le (tgt := 94) hx hb d_Mo_run_84 (by decide) (fun b114 => ?_) (fun b114 => ?_)
            · refine lv_aload_n hx hb d_Mo_run_94 rfl (lv_at hl 0 rfl) ?_
              refine sv_get (C := "StoryMachineModel") (T := T_Mo) (N := 51) hx hb hts in_Mo hown hK hI 0 kM_0 rfl 26 (by decide) (hts _ mw_1089) rfl d_Mo_run_95 (fun z115 hz115a hz115b => ?_)
              refine sn_if_eq (tgt := 105) hx hb d_Mo_run_98 (by decide) (fun b116 => ?_) (fun b116 => ?_)
              · refine sn_iconst hx hb d_Mo_run_105 (by decide) (fun z117 hz117 => ?_)
                refine sv_put (C := "StoryMachineModel") (T := T_Mo) (N := 51) (ty := .int) hx hb hts in_Mo t_Mo tk_Mo nm_Mo hown hK (sh_in adM_map hAC) hI 0 kM_0 rfl 24 (by decide) (hts _ mw_1087) rfl (by decide +kernel) rfl rfl (Nat.le_of_ble_eq_true rfl) (by omega) (by omega) pM_0_24 d_Mo_run_106 (fun H locs hI => ?_)
                refine sn_iinc (k := 2) hx hb d_Mo_run_109 hl rfl (by decide) (by decide) (by omega) (by omega) (fun ls z118 hz118 hl => ?_)
                have hl : lv_has ls 3 [(2, .int z118), (0, .ref (a 0)), (1, .int x1)] := hl
                refine lv_goto (tgt := 63) hx hb d_Mo_run_112 (by decide) ?_
                exact ih _ _ _ z118 t63_th t_tr77 t_dp78 t_zi79 t_co80 t_sh81 t_lt82 f_mf83 hI c84 (by omega) (by omega) (by omega) (by omega) (by omega) (by omega) (by omega) (lv_sub hl [1, 2, 0] rfl) (by omega)
              · refine sn_iconst hx hb d_Mo_run_101 (by decide) (fun z119 hz119 => ?_)
                refine lv_goto (tgt := 106) hx hb d_Mo_run_102 (by decide) ?_
                refine sv_put (C := "StoryMachineModel") (T := T_Mo) (N := 51) (ty := .int) hx hb hts in_Mo t_Mo tk_Mo nm_Mo hown hK (sh_in adM_map hAC) hI 0 kM_0 rfl 24 (by decide) (hts _ mw_1087) rfl (by decide +kernel) rfl rfl (Nat.le_of_ble_eq_true rfl) (by omega) (by omega) pM_0_24 d_Mo_run_106 (fun H locs hI => ?_)
                refine sn_iinc (k := 2) hx hb d_Mo_run_109 hl rfl (by decide) (by decide) (by omega) (by omega) (fun ls z120 hz120 hl => ?_)
                have hl : lv_has ls 3 [(2, .int z120), (0, .ref (a 0)), (1, .int x1)] := hl
                refine lv_goto (tgt := 63) hx hb d_Mo_run_112 (by decide) ?_
                exact ih _ _ _ z120 t63_th t_tr77 t_dp78 t_zi79 t_co80 t_sh81 t_lt82 f_mf83 hI c84 (by omega) (by omega) (by omega) (by omega) (by omega) (by omega) (by omega) (lv_sub hl [1, 2, 0] rfl) (by omega)
            · omega
  refine lv_aload_n hx hb d_Mo_run_0 rfl (lv_at hl 0 rfl) ?_
  refine lv_iload_n hx hb d_Mo_run_1 rfl (lv_at hl 1 rfl) ?_
  refine sn_iconst hx hb d_Mo_run_2 (by decide) (fun z121 hz121 => ?_)
  refine sn_icmp_lt (tgt := 13) hx hb d_Mo_run_3 (by decide) (fun b122 => ?_) (fun b122 => ?_)
  · refine sn_iconst hx hb d_Mo_run_13 (by decide) (fun z123 hz123 => ?_)
    refine lv_goto (tgt := 44) hx hb d_Mo_run_14 (by decide) ?_
    refine sv_put (C := "StoryMachineModel") (T := T_Mo) (N := 51) (ty := .int) hx hb hts in_Mo t_Mo tk_Mo nm_Mo hown hK (sh_in adM_map hAC) hI 0 kM_0 rfl 0 (by decide) (hts _ mw_1063) rfl (by decide +kernel) rfl rfl (Nat.le_of_ble_eq_true rfl) (Int.le_refl _) (Int.le_refl _) pM_0_0 d_Mo_run_44 (fun H locs hI => ?_)
    refine lv_aload_n hx hb d_Mo_run_47 rfl (lv_at hl 0 rfl) ?_
    refine sv_gete (C := "StoryMachineModel") (T := T_Mo) (N := 51) hx hb hts in_Mo hown hK hI 0 kM_0 rfl 0 (by decide) (hts _ mw_1063) rfl d_Mo_run_48 (fun z124 hz124 => ?_)
    refine sn_if_le (tgt := 56) hx hb d_Mo_run_51 (by decide) (fun b125 => ?_) (fun b125 => ?_)
    · omega
    · refine sn_iconst hx hb d_Mo_run_54 (by decide) (fun z126 hz126 => ?_)
      have ho127 : okM z123.toInt tr dp zi co sh lt ts mf := ⟨⟨by omega, by omega⟩, hok.2.1, hok.2.2.1, hok.2.2.2.1, hok.2.2.2.2.1, hok.2.2.2.2.2.1, hok.2.2.2.2.2.2.1, hok.2.2.2.2.2.2.2.1, hok.2.2.2.2.2.2.2.2⟩
      subst hZ
      exact tz_ret (W.iret (v := z126) hx hb hr (fun t ht hW => ⟨⟨fun v9 hv9 => by cases hv9; exact (⟨z126, z123.toInt, tr, dp, zi, co, sh, lt, mf, rfl, ho127, by omega, by omega, by omega, by rw [ht]; exact hI.1⟩), fun x9 hx9 => (by cases hx9)⟩, hI.2.F ht⟩) hI.2.2.2 d_Mo_run_55)
  · refine lv_iload_n hx hb d_Mo_run_6 rfl (lv_at hl 1 rfl) ?_
    refine sn_sipush hx hb d_Mo_run_7 (by decide) (fun z128 hz128 => ?_)
    refine sn_icmp_le (tgt := 17) hx hb d_Mo_run_10 (by decide) (fun b129 => ?_) (fun b129 => ?_)
    · refine lv_aload_n hx hb d_Mo_run_17 rfl (lv_at hl 0 rfl) ?_
      refine sv_get (C := "StoryMachineModel") (T := T_Mo) (N := 51) hx hb hts in_Mo hown hK hI 0 kM_0 rfl 23 (by decide) (hts _ mw_1086) rfl d_Mo_run_18 (fun z130 hz130a hz130b => ?_)
      refine sn_if_eq (tgt := 39) hx hb d_Mo_run_21 (by decide) (fun b131 => ?_) (fun b131 => ?_)
      · refine sn_iconst hx hb d_Mo_run_39 (by decide) (fun z132 hz132 => ?_)
        refine lv_goto (tgt := 44) hx hb d_Mo_run_40 (by decide) ?_
        refine sv_put (C := "StoryMachineModel") (T := T_Mo) (N := 51) (ty := .int) hx hb hts in_Mo t_Mo tk_Mo nm_Mo hown hK (sh_in adM_map hAC) hI 0 kM_0 rfl 0 (by decide) (hts _ mw_1063) rfl (by decide +kernel) rfl rfl (Nat.le_of_ble_eq_true rfl) (Int.le_refl _) (Int.le_refl _) pM_0_0 d_Mo_run_44 (fun H locs hI => ?_)
        refine lv_aload_n hx hb d_Mo_run_47 rfl (lv_at hl 0 rfl) ?_
        refine sv_gete (C := "StoryMachineModel") (T := T_Mo) (N := 51) hx hb hts in_Mo hown hK hI 0 kM_0 rfl 0 (by decide) (hts _ mw_1063) rfl d_Mo_run_48 (fun z133 hz133 => ?_)
        refine sn_if_le (tgt := 56) hx hb d_Mo_run_51 (by decide) (fun b134 => ?_) (fun b134 => ?_)
        · omega
        · refine sn_iconst hx hb d_Mo_run_54 (by decide) (fun z135 hz135 => ?_)
          have ho136 : okM z132.toInt tr dp zi co sh lt ts mf := ⟨⟨by omega, by omega⟩, hok.2.1, hok.2.2.1, hok.2.2.2.1, hok.2.2.2.2.1, hok.2.2.2.2.2.1, hok.2.2.2.2.2.2.1, hok.2.2.2.2.2.2.2.1, hok.2.2.2.2.2.2.2.2⟩
          subst hZ
          exact tz_ret (W.iret (v := z135) hx hb hr (fun t ht hW => ⟨⟨fun v9 hv9 => by cases hv9; exact (⟨z135, z132.toInt, tr, dp, zi, co, sh, lt, mf, rfl, ho136, by omega, by omega, by omega, by rw [ht]; exact hI.1⟩), fun x9 hx9 => (by cases hx9)⟩, hI.2.F ht⟩) hI.2.2.2 d_Mo_run_55)
      · refine lv_aload_n hx hb d_Mo_run_24 rfl (lv_at hl 0 rfl) ?_
        refine sv_get (C := "StoryMachineModel") (T := T_Mo) (N := 51) hx hb hts in_Mo hown hK hI 0 kM_0 rfl 24 (by decide) (hts _ mw_1087) rfl d_Mo_run_25 (fun z137 hz137a hz137b => ?_)
        refine sn_if_eq (tgt := 43) hx hb d_Mo_run_28 (by decide) (fun b138 => ?_) (fun b138 => ?_)
        · refine sn_iconst hx hb d_Mo_run_43 (by decide) (fun z139 hz139 => ?_)
          refine sv_put (C := "StoryMachineModel") (T := T_Mo) (N := 51) (ty := .int) hx hb hts in_Mo t_Mo tk_Mo nm_Mo hown hK (sh_in adM_map hAC) hI 0 kM_0 rfl 0 (by decide) (hts _ mw_1063) rfl (by decide +kernel) rfl rfl (Nat.le_of_ble_eq_true rfl) (Int.le_refl _) (Int.le_refl _) pM_0_0 d_Mo_run_44 (fun H locs hI => ?_)
          refine lv_aload_n hx hb d_Mo_run_47 rfl (lv_at hl 0 rfl) ?_
          refine sv_gete (C := "StoryMachineModel") (T := T_Mo) (N := 51) hx hb hts in_Mo hown hK hI 0 kM_0 rfl 0 (by decide) (hts _ mw_1063) rfl d_Mo_run_48 (fun z140 hz140 => ?_)
          refine sn_if_le (tgt := 56) hx hb d_Mo_run_51 (by decide) (fun b141 => ?_) (fun b141 => ?_)
          · refine lv_aload_n hx hb d_Mo_run_56 rfl (lv_at hl 0 rfl) ?_
            refine sn_iconst hx hb d_Mo_run_57 (by decide) (fun z142 hz142 => ?_)
            refine sv_put (C := "StoryMachineModel") (T := T_Mo) (N := 51) (ty := .int) hx hb hts in_Mo t_Mo tk_Mo nm_Mo hown hK (sh_in adM_map hAC) hI 0 kM_0 rfl 24 (by decide) (hts _ mw_1087) rfl (by decide +kernel) rfl rfl (Nat.le_of_ble_eq_true rfl) (by omega) (by omega) pM_0_24 d_Mo_run_58 (fun H locs hI => ?_)
            refine sn_iconst hx hb d_Mo_run_61 (by decide) (fun z143 hz143 => ?_)
            refine lv_istore_n (lv' := [(2, .int z143), (0, .ref (a 0)), (1, .int x1)]) hx hb d_Mo_run_62 rfl hl (by decide) rfl (fun ls hl => ?_)
            have ho144 : okM z139.toInt tr dp zi co sh lt ts mf := ⟨⟨by omega, by omega⟩, hok.2.1, hok.2.2.1, hok.2.2.2.1, hok.2.2.2.2.1, hok.2.2.2.2.2.1, hok.2.2.2.2.2.2.1, hok.2.2.2.2.2.2.2.1, hok.2.2.2.2.2.2.2.2⟩
            exact j63 301 _ _ _ z143 z139.toInt tr dp zi co sh lt mf hI ho144 (by omega) (by omega) (by omega) (by omega) (by omega) (by omega) (by omega) (lv_sub hl [1, 2, 0] rfl) (by omega)
          · omega
        · refine lv_aload_n hx hb d_Mo_run_31 rfl (lv_at hl 0 rfl) ?_
          refine sv_get (C := "StoryMachineModel") (T := T_Mo) (N := 51) hx hb hts in_Mo hown hK hI 0 kM_0 rfl 24 (by decide) (hts _ mw_1087) rfl d_Mo_run_32 (fun z145 hz145a hz145b => ?_)
          refine sn_iconst hx hb d_Mo_run_35 (by decide) (fun z146 hz146 => ?_)
          refine sn_icmp_eq (tgt := 43) hx hb d_Mo_run_36 (by decide) (fun b147 => ?_) (fun b147 => ?_)
          · refine sn_iconst hx hb d_Mo_run_43 (by decide) (fun z148 hz148 => ?_)
            refine sv_put (C := "StoryMachineModel") (T := T_Mo) (N := 51) (ty := .int) hx hb hts in_Mo t_Mo tk_Mo nm_Mo hown hK (sh_in adM_map hAC) hI 0 kM_0 rfl 0 (by decide) (hts _ mw_1063) rfl (by decide +kernel) rfl rfl (Nat.le_of_ble_eq_true rfl) (Int.le_refl _) (Int.le_refl _) pM_0_0 d_Mo_run_44 (fun H locs hI => ?_)
            refine lv_aload_n hx hb d_Mo_run_47 rfl (lv_at hl 0 rfl) ?_
            refine sv_gete (C := "StoryMachineModel") (T := T_Mo) (N := 51) hx hb hts in_Mo hown hK hI 0 kM_0 rfl 0 (by decide) (hts _ mw_1063) rfl d_Mo_run_48 (fun z149 hz149 => ?_)
            refine sn_if_le (tgt := 56) hx hb d_Mo_run_51 (by decide) (fun b150 => ?_) (fun b150 => ?_)
            · refine lv_aload_n hx hb d_Mo_run_56 rfl (lv_at hl 0 rfl) ?_
              refine sn_iconst hx hb d_Mo_run_57 (by decide) (fun z151 hz151 => ?_)
              refine sv_put (C := "StoryMachineModel") (T := T_Mo) (N := 51) (ty := .int) hx hb hts in_Mo t_Mo tk_Mo nm_Mo hown hK (sh_in adM_map hAC) hI 0 kM_0 rfl 24 (by decide) (hts _ mw_1087) rfl (by decide +kernel) rfl rfl (Nat.le_of_ble_eq_true rfl) (by omega) (by omega) pM_0_24 d_Mo_run_58 (fun H locs hI => ?_)
              refine sn_iconst hx hb d_Mo_run_61 (by decide) (fun z152 hz152 => ?_)
              refine lv_istore_n (lv' := [(2, .int z152), (0, .ref (a 0)), (1, .int x1)]) hx hb d_Mo_run_62 rfl hl (by decide) rfl (fun ls hl => ?_)
              have ho153 : okM z148.toInt tr dp zi co sh lt ts mf := ⟨⟨by omega, by omega⟩, hok.2.1, hok.2.2.1, hok.2.2.2.1, hok.2.2.2.2.1, hok.2.2.2.2.2.1, hok.2.2.2.2.2.2.1, hok.2.2.2.2.2.2.2.1, hok.2.2.2.2.2.2.2.2⟩
              exact j63 301 _ _ _ z152 z148.toInt tr dp zi co sh lt mf hI ho153 (by omega) (by omega) (by omega) (by omega) (by omega) (by omega) (by omega) (lv_sub hl [1, 2, 0] rfl) (by omega)
            · omega
          · refine sn_iconst hx hb d_Mo_run_39 (by decide) (fun z154 hz154 => ?_)
            refine lv_goto (tgt := 44) hx hb d_Mo_run_40 (by decide) ?_
            refine sv_put (C := "StoryMachineModel") (T := T_Mo) (N := 51) (ty := .int) hx hb hts in_Mo t_Mo tk_Mo nm_Mo hown hK (sh_in adM_map hAC) hI 0 kM_0 rfl 0 (by decide) (hts _ mw_1063) rfl (by decide +kernel) rfl rfl (Nat.le_of_ble_eq_true rfl) (Int.le_refl _) (Int.le_refl _) pM_0_0 d_Mo_run_44 (fun H locs hI => ?_)
            refine lv_aload_n hx hb d_Mo_run_47 rfl (lv_at hl 0 rfl) ?_
            refine sv_gete (C := "StoryMachineModel") (T := T_Mo) (N := 51) hx hb hts in_Mo hown hK hI 0 kM_0 rfl 0 (by decide) (hts _ mw_1063) rfl d_Mo_run_48 (fun z155 hz155 => ?_)
            refine sn_if_le (tgt := 56) hx hb d_Mo_run_51 (by decide) (fun b156 => ?_) (fun b156 => ?_)
            · omega
            · refine sn_iconst hx hb d_Mo_run_54 (by decide) (fun z157 hz157 => ?_)
              have ho158 : okM z154.toInt tr dp zi co sh lt ts mf := ⟨⟨by omega, by omega⟩, hok.2.1, hok.2.2.1, hok.2.2.2.1, hok.2.2.2.2.1, hok.2.2.2.2.2.1, hok.2.2.2.2.2.2.1, hok.2.2.2.2.2.2.2.1, hok.2.2.2.2.2.2.2.2⟩
              subst hZ
              exact tz_ret (W.iret (v := z157) hx hb hr (fun t ht hW => ⟨⟨fun v9 hv9 => by cases hv9; exact (⟨z157, z154.toInt, tr, dp, zi, co, sh, lt, mf, rfl, ho158, by omega, by omega, by omega, by rw [ht]; exact hI.1⟩), fun x9 hx9 => (by cases hx9)⟩, hI.2.F ht⟩) hI.2.2.2 d_Mo_run_55)
    · refine sn_iconst hx hb d_Mo_run_13 (by decide) (fun z159 hz159 => ?_)
      refine lv_goto (tgt := 44) hx hb d_Mo_run_14 (by decide) ?_
      refine sv_put (C := "StoryMachineModel") (T := T_Mo) (N := 51) (ty := .int) hx hb hts in_Mo t_Mo tk_Mo nm_Mo hown hK (sh_in adM_map hAC) hI 0 kM_0 rfl 0 (by decide) (hts _ mw_1063) rfl (by decide +kernel) rfl rfl (Nat.le_of_ble_eq_true rfl) (Int.le_refl _) (Int.le_refl _) pM_0_0 d_Mo_run_44 (fun H locs hI => ?_)
      refine lv_aload_n hx hb d_Mo_run_47 rfl (lv_at hl 0 rfl) ?_
      refine sv_gete (C := "StoryMachineModel") (T := T_Mo) (N := 51) hx hb hts in_Mo hown hK hI 0 kM_0 rfl 0 (by decide) (hts _ mw_1063) rfl d_Mo_run_48 (fun z160 hz160 => ?_)
      refine sn_if_le (tgt := 56) hx hb d_Mo_run_51 (by decide) (fun b161 => ?_) (fun b161 => ?_)
      · omega
      · refine sn_iconst hx hb d_Mo_run_54 (by decide) (fun z162 hz162 => ?_)
        have ho163 : okM z159.toInt tr dp zi co sh lt ts mf := ⟨⟨by omega, by omega⟩, hok.2.1, hok.2.2.1, hok.2.2.2.1, hok.2.2.2.2.1, hok.2.2.2.2.2.1, hok.2.2.2.2.2.2.1, hok.2.2.2.2.2.2.2.1, hok.2.2.2.2.2.2.2.2⟩
        subst hZ
        exact tz_ret (W.iret (v := z162) hx hb hr (fun t ht hW => ⟨⟨fun v9 hv9 => by cases hv9; exact (⟨z162, z159.toInt, tr, dp, zi, co, sh, lt, mf, rfl, ho163, by omega, by omega, by omega, by rw [ht]; exact hI.1⟩), fun x9 hx9 => (by cases hx9)⟩, hI.2.F ht⟩) hI.2.2.2 d_Mo_run_55)
abbrev q_Mo_steps (dC : Nat → ClassId) (dI : Nat → Nat → Nat) (cI cJ : ClassId) (a : Nat → Nat) (th tr dp zi co sh lt ts : Int) (mf : Nat → Int32) : Outcome → State → Prop := fun o t => (∀ v, o = .returned v → ((∃ (z : Int32) (th_ : Int), v = some (.int z) ∧ okM th_ tr dp zi co sh lt ts mf ∧ ((-2147483648) ≤ z.toInt) ∧ (z.toInt ≤ 2147483647) ∧ (th_ ≤ 0) ∧ sh_I (dC, dI) vcl cI cJ (gsM a th_ tr dp zi co sh lt ts mf) t.heap))) ∧ (∀ x, o = .threw x → (False))
def rm_Mo_steps : Room := { frames := 0, cells := 0, slots := 0, locals := 0 }
set_option maxHeartbeats 4000000 in
set_option maxRecDepth 100000 in
theorem c_Mo_steps (l : Launch) (hfl : l.flags = pinnedFlags ++ [noTraceFlag]) (dC : Nat → ClassId) (dI : Nat → Nat → Nat) (cI cJ : ClassId) (a : Nat → Nat) (sz : Nat) (th tr dp zi co sh lt ts : Int) (mf : Nat → Int32) (hok : okM th tr dp zi co sh lt ts mf) : tz_Met l ⟨"StoryMachineModel", "steps", "()I"⟩ tw_tbl rm_Mo_steps (tzP (dC, dI) vcl cI cJ (gsM a th tr dp zi co sh lt ts mf) a (adM a) [.ref (a 0)] sz) (tq_Q (q_Mo_steps dC dI cI cJ a th tr dp zi co sh lt ts mf) (ga (adM a) sz)) 0 0 0 0 (ga (adM a) sz) := by
  refine tz_ofW (cc := prog_13_method_79_code) (maxL := 1) (ret := (some .int)) (by decide) (tx_isM mw_1526) ?_
  intro p e s m args below meth c s₁ B hml hv
  obtain ⟨rfl, hsz, hI0, hK, hst0⟩ := hv
  have hx := B.exec
  have hb := B.bytes
  have hr := B.returns
  have hts := atoms_spec (ws := tw_tbl) B.pre
  have hown : s.vm.findClass "StoryMachineModel" = some m.cls := findClass_of_methodNamed B.named
  have hlocks := B.notSynchronized
  subst hsz
  have hst := fun (H : Heap) (locs : List Loc) (hS : va_S (ga (adM a) s.heap.size) s.heap H locs) (U : State) (hU : U.heap = H) (hW : s.WarmedH U.vm) => zS_all adM_map hI0 hst0 hS hU hW
  have hAC : ∀ q ∈ adM a, ga (adM a) s.heap.size q := fun q h => Or.inl h
  have hA0 : ∀ q, s.heap.size ≤ q → ga (adM a) s.heap.size q := fun q h => Or.inr h
  have hI : sI (dC, dI) vcl cI cJ (gsM a th tr dp zi co sh lt ts mf) (ga (adM a) s.heap.size) s.heap s.heap [] := ⟨hI0, va_S.rf⟩
  clear hI0 hst0
  have hl := lv_entry ([.ref (a 0)]) (n := 1) (Nat.le_of_ble_eq_true rfl)
  rw [lg_entry_eq]
  generalize (lg_sl ([.ref (a 0)]) ++ List.replicate (1 - (lg_sl ([.ref (a 0)])).length) Slot.unset).toArray = ls at hl ⊢
  have hl : lv_has ls 1 [(0, .ref (a 0))] := hl
  generalize hZ : tz_MQ below (tq_Q (q_Mo_steps dC dI cI cJ a th tr dp zi co sh lt ts mf) (ga (adM a) s.heap.size)) ([.ref (a 0)] : List Value).toArray s 0 0 0 0 (ga (adM a) s.heap.size) = Z
  obtain ⟨A, hAe⟩ : ∃ A, A = ga (adM a) s.heap.size := ⟨_, rfl⟩
  rw [← hAe] at hst hAC hA0 hI hZ
  refine sv_start hI (fun H locs hI => ?_)
  obtain ⟨⟨o1, o2⟩, ⟨o3, o4⟩, ⟨o5, o6⟩, ⟨o7, o8⟩, ⟨o9, o10⟩, ⟨o11, o12⟩, ⟨o13, o14⟩, ⟨o15, o16⟩, -⟩ := id hok
  refine lv_aload_n hx hb d_Mo_steps_0 rfl (lv_at hl 0 rfl) ?_
  refine sn_iconst hx hb d_Mo_steps_1 (by decide) (fun z17 hz17 => ?_)
  refine sv_put (C := "StoryMachineModel") (T := T_Mo) (N := 51) (ty := .int) hx hb hts in_Mo t_Mo tk_Mo nm_Mo hown hK (sh_in adM_map hAC) hI 0 kM_0 rfl 0 (by decide) (hts _ mw_1063) rfl (by decide +kernel) rfl rfl (Nat.le_of_ble_eq_true rfl) (Int.le_refl _) (Int.le_refl _) pM_0_0 d_Mo_steps_2 (fun H locs hI => ?_)
  refine lv_aload_n hx hb d_Mo_steps_5 rfl (lv_at hl 0 rfl) ?_
  refine sv_get (C := "StoryMachineModel") (T := T_Mo) (N := 51) hx hb hts in_Mo hown hK hI 0 kM_0 rfl 29 (by decide) (hts _ mw_1092) rfl d_Mo_steps_6 (fun z18 hz18a hz18b => ?_)
  have ho19 : okM z17.toInt tr dp zi co sh lt ts mf := ⟨⟨by omega, by omega⟩, hok.2.1, hok.2.2.1, hok.2.2.2.1, hok.2.2.2.2.1, hok.2.2.2.2.2.1, hok.2.2.2.2.2.2.1, hok.2.2.2.2.2.2.2.1, hok.2.2.2.2.2.2.2.2⟩
  subst hZ
  exact tz_ret (W.iret (v := z18) hx hb hr (fun t ht hW => ⟨⟨fun v9 hv9 => by cases hv9; exact (⟨z18, z17.toInt, rfl, ho19, by omega, by omega, by omega, by rw [ht]; exact hI.1⟩), fun x9 hx9 => (by cases hx9)⟩, hI.2.F ht⟩) hI.2.2.2 d_Mo_steps_9)
abbrev q_Mo_place (dC : Nat → ClassId) (dI : Nat → Nat → Nat) (cI cJ : ClassId) (a : Nat → Nat) (th tr dp zi co sh lt ts : Int) (mf : Nat → Int32) : Outcome → State → Prop := fun o t => (∀ v, o = .returned v → ((∃ (z : Int32) (th_ : Int), v = some (.int z) ∧ okM th_ tr dp zi co sh lt ts mf ∧ ((-2147483648) ≤ z.toInt) ∧ (z.toInt ≤ 2147483647) ∧ (th_ ≤ 0) ∧ sh_I (dC, dI) vcl cI cJ (gsM a th_ tr dp zi co sh lt ts mf) t.heap))) ∧ (∀ x, o = .threw x → (False))
def rm_Mo_place : Room := { frames := 0, cells := 0, slots := 0, locals := 0 }
set_option maxHeartbeats 4000000 in
set_option maxRecDepth 100000 in
theorem c_Mo_place (l : Launch) (hfl : l.flags = pinnedFlags ++ [noTraceFlag]) (dC : Nat → ClassId) (dI : Nat → Nat → Nat) (cI cJ : ClassId) (a : Nat → Nat) (sz : Nat) (th tr dp zi co sh lt ts : Int) (mf : Nat → Int32) (hok : okM th tr dp zi co sh lt ts mf) : tz_Met l ⟨"StoryMachineModel", "place", "()I"⟩ tw_tbl rm_Mo_place (tzP (dC, dI) vcl cI cJ (gsM a th tr dp zi co sh lt ts mf) a (adM a) [.ref (a 0)] sz) (tq_Q (q_Mo_place dC dI cI cJ a th tr dp zi co sh lt ts mf) (ga (adM a) sz)) 0 0 0 0 (ga (adM a) sz) := by
  refine tz_ofW (cc := prog_13_method_80_code) (maxL := 1) (ret := (some .int)) (by decide) (tx_isM mw_1530) ?_
  intro p e s m args below meth c s₁ B hml hv
  obtain ⟨rfl, hsz, hI0, hK, hst0⟩ := hv
  have hx := B.exec
  have hb := B.bytes
  have hr := B.returns
  have hts := atoms_spec (ws := tw_tbl) B.pre
  have hown : s.vm.findClass "StoryMachineModel" = some m.cls := findClass_of_methodNamed B.named
  have hlocks := B.notSynchronized
  subst hsz
  have hst := fun (H : Heap) (locs : List Loc) (hS : va_S (ga (adM a) s.heap.size) s.heap H locs) (U : State) (hU : U.heap = H) (hW : s.WarmedH U.vm) => zS_all adM_map hI0 hst0 hS hU hW
  have hAC : ∀ q ∈ adM a, ga (adM a) s.heap.size q := fun q h => Or.inl h
  have hA0 : ∀ q, s.heap.size ≤ q → ga (adM a) s.heap.size q := fun q h => Or.inr h
  have hI : sI (dC, dI) vcl cI cJ (gsM a th tr dp zi co sh lt ts mf) (ga (adM a) s.heap.size) s.heap s.heap [] := ⟨hI0, va_S.rf⟩
  clear hI0 hst0
  have hl := lv_entry ([.ref (a 0)]) (n := 1) (Nat.le_of_ble_eq_true rfl)
  rw [lg_entry_eq]
  generalize (lg_sl ([.ref (a 0)]) ++ List.replicate (1 - (lg_sl ([.ref (a 0)])).length) Slot.unset).toArray = ls at hl ⊢
  have hl : lv_has ls 1 [(0, .ref (a 0))] := hl
  generalize hZ : tz_MQ below (tq_Q (q_Mo_place dC dI cI cJ a th tr dp zi co sh lt ts mf) (ga (adM a) s.heap.size)) ([.ref (a 0)] : List Value).toArray s 0 0 0 0 (ga (adM a) s.heap.size) = Z
  obtain ⟨A, hAe⟩ : ∃ A, A = ga (adM a) s.heap.size := ⟨_, rfl⟩
  rw [← hAe] at hst hAC hA0 hI hZ
  refine sv_start hI (fun H locs hI => ?_)
  obtain ⟨⟨o1, o2⟩, ⟨o3, o4⟩, ⟨o5, o6⟩, ⟨o7, o8⟩, ⟨o9, o10⟩, ⟨o11, o12⟩, ⟨o13, o14⟩, ⟨o15, o16⟩, -⟩ := id hok
  refine lv_aload_n hx hb d_Mo_place_0 rfl (lv_at hl 0 rfl) ?_
  refine sn_iconst hx hb d_Mo_place_1 (by decide) (fun z17 hz17 => ?_)
  refine sv_put (C := "StoryMachineModel") (T := T_Mo) (N := 51) (ty := .int) hx hb hts in_Mo t_Mo tk_Mo nm_Mo hown hK (sh_in adM_map hAC) hI 0 kM_0 rfl 0 (by decide) (hts _ mw_1063) rfl (by decide +kernel) rfl rfl (Nat.le_of_ble_eq_true rfl) (Int.le_refl _) (Int.le_refl _) pM_0_0 d_Mo_place_2 (fun H locs hI => ?_)
  refine lv_aload_n hx hb d_Mo_place_5 rfl (lv_at hl 0 rfl) ?_
  refine sv_get (C := "StoryMachineModel") (T := T_Mo) (N := 51) hx hb hts in_Mo hown hK hI 0 kM_0 rfl 23 (by decide) (hts _ mw_1086) rfl d_Mo_place_6 (fun z18 hz18a hz18b => ?_)
  refine sn_if_eq (tgt := 19) hx hb d_Mo_place_9 (by decide) (fun b19 => ?_) (fun b19 => ?_)
  · refine sn_iconst hx hb d_Mo_place_19 (by decide) (fun z20 hz20 => ?_)
    have ho21 : okM z17.toInt tr dp zi co sh lt ts mf := ⟨⟨by omega, by omega⟩, hok.2.1, hok.2.2.1, hok.2.2.2.1, hok.2.2.2.2.1, hok.2.2.2.2.2.1, hok.2.2.2.2.2.2.1, hok.2.2.2.2.2.2.2.1, hok.2.2.2.2.2.2.2.2⟩
    subst hZ
    exact tz_ret (W.iret (v := z20) hx hb hr (fun t ht hW => ⟨⟨fun v9 hv9 => by cases hv9; exact (⟨z20, z17.toInt, rfl, ho21, by omega, by omega, by omega, by rw [ht]; exact hI.1⟩), fun x9 hx9 => (by cases hx9)⟩, hI.2.F ht⟩) hI.2.2.2 d_Mo_place_20)
  · refine lv_aload_n hx hb d_Mo_place_12 rfl (lv_at hl 0 rfl) ?_
    refine sv_get (C := "StoryMachineModel") (T := T_Mo) (N := 51) hx hb hts in_Mo hown hK hI 0 kM_0 rfl 27 (by decide) (hts _ mw_1090) rfl d_Mo_place_13 (fun z22 hz22a hz22b => ?_)
    refine lv_goto (tgt := 20) hx hb d_Mo_place_16 (by decide) ?_
    have ho23 : okM z17.toInt tr dp zi co sh lt ts mf := ⟨⟨by omega, by omega⟩, hok.2.1, hok.2.2.1, hok.2.2.2.1, hok.2.2.2.2.1, hok.2.2.2.2.2.1, hok.2.2.2.2.2.2.1, hok.2.2.2.2.2.2.2.1, hok.2.2.2.2.2.2.2.2⟩
    subst hZ
    exact tz_ret (W.iret (v := z22) hx hb hr (fun t ht hW => ⟨⟨fun v9 hv9 => by cases hv9; exact (⟨z22, z17.toInt, rfl, ho23, by omega, by omega, by omega, by rw [ht]; exact hI.1⟩), fun x9 hx9 => (by cases hx9)⟩, hI.2.F ht⟩) hI.2.2.2 d_Mo_place_20)
abbrev q_Mo_output (dC : Nat → ClassId) (dI : Nat → Nat → Nat) (cI cJ : ClassId) (a : Nat → Nat) (th tr dp zi co sh lt ts : Int) (mf : Nat → Int32) (x1 : Int32) : Outcome → State → Prop := fun o t => (∀ v, o = .returned v → ((∃ (z : Int32) (th_ : Int), v = some (.int z) ∧ okM th_ tr dp zi co sh lt ts mf ∧ ((-2147483648) ≤ z.toInt) ∧ (z.toInt ≤ 2147483647) ∧ (th_ ≤ 1) ∧ sh_I (dC, dI) vcl cI cJ (gsM a th_ tr dp zi co sh lt ts mf) t.heap))) ∧ (∀ x, o = .threw x → (False))
def rm_Mo_output : Room := { frames := 0, cells := 0, slots := 0, locals := 0 }
set_option maxHeartbeats 4000000 in
set_option maxRecDepth 100000 in
theorem c_Mo_output (l : Launch) (hfl : l.flags = pinnedFlags ++ [noTraceFlag]) (dC : Nat → ClassId) (dI : Nat → Nat → Nat) (cI cJ : ClassId) (a : Nat → Nat) (sz : Nat) (th tr dp zi co sh lt ts : Int) (mf : Nat → Int32) (x1 : Int32) (hok : okM th tr dp zi co sh lt ts mf) : tz_Met l ⟨"StoryMachineModel", "output", "(I)I"⟩ tw_tbl rm_Mo_output (tzP (dC, dI) vcl cI cJ (gsM a th tr dp zi co sh lt ts mf) a (adM a) [.ref (a 0), .int x1] sz) (tq_Q (q_Mo_output dC dI cI cJ a th tr dp zi co sh lt ts mf x1) (ga (adM a) sz)) 0 0 0 0 (ga (adM a) sz) := by
  refine tz_ofW (cc := prog_13_method_81_code) (maxL := 2) (ret := (some .int)) (by decide) (tx_isM mw_1534) ?_
  intro p e s m args below meth c s₁ B hml hv
  obtain ⟨rfl, hsz, hI0, hK, hst0⟩ := hv
  have hx := B.exec
  have hb := B.bytes
  have hr := B.returns
  have hts := atoms_spec (ws := tw_tbl) B.pre
  have hown : s.vm.findClass "StoryMachineModel" = some m.cls := findClass_of_methodNamed B.named
  have hlocks := B.notSynchronized
  subst hsz
  have hst := fun (H : Heap) (locs : List Loc) (hS : va_S (ga (adM a) s.heap.size) s.heap H locs) (U : State) (hU : U.heap = H) (hW : s.WarmedH U.vm) => zS_all adM_map hI0 hst0 hS hU hW
  have hAC : ∀ q ∈ adM a, ga (adM a) s.heap.size q := fun q h => Or.inl h
  have hA0 : ∀ q, s.heap.size ≤ q → ga (adM a) s.heap.size q := fun q h => Or.inr h
  have hI : sI (dC, dI) vcl cI cJ (gsM a th tr dp zi co sh lt ts mf) (ga (adM a) s.heap.size) s.heap s.heap [] := ⟨hI0, va_S.rf⟩
  clear hI0 hst0
  have hl := lv_entry ([.ref (a 0), .int x1]) (n := 2) (Nat.le_of_ble_eq_true rfl)
  rw [lg_entry_eq]
  generalize (lg_sl ([.ref (a 0), .int x1]) ++ List.replicate (2 - (lg_sl ([.ref (a 0), .int x1])).length) Slot.unset).toArray = ls at hl ⊢
  have hl : lv_has ls 2 [(0, .ref (a 0)), (1, .int x1)] := hl
  generalize hZ : tz_MQ below (tq_Q (q_Mo_output dC dI cI cJ a th tr dp zi co sh lt ts mf x1) (ga (adM a) s.heap.size)) ([.ref (a 0), .int x1] : List Value).toArray s 0 0 0 0 (ga (adM a) s.heap.size) = Z
  obtain ⟨A, hAe⟩ : ∃ A, A = ga (adM a) s.heap.size := ⟨_, rfl⟩
  rw [← hAe] at hst hAC hA0 hI hZ
  refine sv_start hI (fun H locs hI => ?_)
  obtain ⟨⟨o1, o2⟩, ⟨o3, o4⟩, ⟨o5, o6⟩, ⟨o7, o8⟩, ⟨o9, o10⟩, ⟨o11, o12⟩, ⟨o13, o14⟩, ⟨o15, o16⟩, -⟩ := id hok
  have gx1 := sn_rng x1
  refine lv_aload_n hx hb d_Mo_output_0 rfl (lv_at hl 0 rfl) ?_
  refine lv_iload_n hx hb d_Mo_output_1 rfl (lv_at hl 1 rfl) ?_
  refine sn_iconst hx hb d_Mo_output_2 (by decide) (fun z17 hz17 => ?_)
  refine sn_icmp_lt (tgt := 20) hx hb d_Mo_output_3 (by decide) (fun b18 => ?_) (fun b18 => ?_)
  · refine sn_iconst hx hb d_Mo_output_20 (by decide) (fun z19 hz19 => ?_)
    refine lv_goto (tgt := 25) hx hb d_Mo_output_21 (by decide) ?_
    refine sv_put (C := "StoryMachineModel") (T := T_Mo) (N := 51) (ty := .int) hx hb hts in_Mo t_Mo tk_Mo nm_Mo hown hK (sh_in adM_map hAC) hI 0 kM_0 rfl 0 (by decide) (hts _ mw_1063) rfl (by decide +kernel) rfl rfl (Nat.le_of_ble_eq_true rfl) (Int.le_refl _) (Int.le_refl _) pM_0_0 d_Mo_output_25 (fun H locs hI => ?_)
    refine lv_aload_n hx hb d_Mo_output_28 rfl (lv_at hl 0 rfl) ?_
    refine sv_gete (C := "StoryMachineModel") (T := T_Mo) (N := 51) hx hb hts in_Mo hown hK hI 0 kM_0 rfl 0 (by decide) (hts _ mw_1063) rfl d_Mo_output_29 (fun z20 hz20 => ?_)
    refine sn_if_le (tgt := 37) hx hb d_Mo_output_32 (by decide) (fun b21 => ?_) (fun b21 => ?_)
    · omega
    · refine sn_iconst hx hb d_Mo_output_35 (by decide) (fun z22 hz22 => ?_)
      have ho23 : okM z19.toInt tr dp zi co sh lt ts mf := ⟨⟨by omega, by omega⟩, hok.2.1, hok.2.2.1, hok.2.2.2.1, hok.2.2.2.2.1, hok.2.2.2.2.2.1, hok.2.2.2.2.2.2.1, hok.2.2.2.2.2.2.2.1, hok.2.2.2.2.2.2.2.2⟩
      subst hZ
      exact tz_ret (W.iret (v := z22) hx hb hr (fun t ht hW => ⟨⟨fun v9 hv9 => by cases hv9; exact (⟨z22, z19.toInt, rfl, ho23, by omega, by omega, by omega, by rw [ht]; exact hI.1⟩), fun x9 hx9 => (by cases hx9)⟩, hI.2.F ht⟩) hI.2.2.2 d_Mo_output_36)
  · refine lv_iload_n hx hb d_Mo_output_6 rfl (lv_at hl 1 rfl) ?_
    refine sn_bipush hx hb d_Mo_output_7 (by decide) (fun z24 hz24 => ?_)
    refine sn_icmp_gt (tgt := 20) hx hb d_Mo_output_9 (by decide) (fun b25 => ?_) (fun b25 => ?_)
    · refine sn_iconst hx hb d_Mo_output_20 (by decide) (fun z26 hz26 => ?_)
      refine lv_goto (tgt := 25) hx hb d_Mo_output_21 (by decide) ?_
      refine sv_put (C := "StoryMachineModel") (T := T_Mo) (N := 51) (ty := .int) hx hb hts in_Mo t_Mo tk_Mo nm_Mo hown hK (sh_in adM_map hAC) hI 0 kM_0 rfl 0 (by decide) (hts _ mw_1063) rfl (by decide +kernel) rfl rfl (Nat.le_of_ble_eq_true rfl) (Int.le_refl _) (Int.le_refl _) pM_0_0 d_Mo_output_25 (fun H locs hI => ?_)
      refine lv_aload_n hx hb d_Mo_output_28 rfl (lv_at hl 0 rfl) ?_
      refine sv_gete (C := "StoryMachineModel") (T := T_Mo) (N := 51) hx hb hts in_Mo hown hK hI 0 kM_0 rfl 0 (by decide) (hts _ mw_1063) rfl d_Mo_output_29 (fun z27 hz27 => ?_)
      refine sn_if_le (tgt := 37) hx hb d_Mo_output_32 (by decide) (fun b28 => ?_) (fun b28 => ?_)
      · omega
      · refine sn_iconst hx hb d_Mo_output_35 (by decide) (fun z29 hz29 => ?_)
        have ho30 : okM z26.toInt tr dp zi co sh lt ts mf := ⟨⟨by omega, by omega⟩, hok.2.1, hok.2.2.1, hok.2.2.2.1, hok.2.2.2.2.1, hok.2.2.2.2.2.1, hok.2.2.2.2.2.2.1, hok.2.2.2.2.2.2.2.1, hok.2.2.2.2.2.2.2.2⟩
        subst hZ
        exact tz_ret (W.iret (v := z29) hx hb hr (fun t ht hW => ⟨⟨fun v9 hv9 => by cases hv9; exact (⟨z29, z26.toInt, rfl, ho30, by omega, by omega, by omega, by rw [ht]; exact hI.1⟩), fun x9 hx9 => (by cases hx9)⟩, hI.2.F ht⟩) hI.2.2.2 d_Mo_output_36)
    · refine lv_iload_n hx hb d_Mo_output_12 rfl (lv_at hl 1 rfl) ?_
      refine lv_aload_n hx hb d_Mo_output_13 rfl (lv_at hl 0 rfl) ?_
      refine sv_gete (C := "StoryMachineModel") (T := T_Mo) (N := 51) hx hb hts in_Mo hown hK hI 0 kM_0 rfl 31 (by decide) (hts _ mw_1094) rfl d_Mo_output_14 (fun z31 hz31 => ?_)
      refine sn_icmp_lt (tgt := 24) hx hb d_Mo_output_17 (by decide) (fun b32 => ?_) (fun b32 => ?_)
      · refine sn_iconst hx hb d_Mo_output_24 (by decide) (fun z33 hz33 => ?_)
        refine sv_put (C := "StoryMachineModel") (T := T_Mo) (N := 51) (ty := .int) hx hb hts in_Mo t_Mo tk_Mo nm_Mo hown hK (sh_in adM_map hAC) hI 0 kM_0 rfl 0 (by decide) (hts _ mw_1063) rfl (by decide +kernel) rfl rfl (Nat.le_of_ble_eq_true rfl) (Int.le_refl _) (Int.le_refl _) pM_0_0 d_Mo_output_25 (fun H locs hI => ?_)
        refine lv_aload_n hx hb d_Mo_output_28 rfl (lv_at hl 0 rfl) ?_
        refine sv_gete (C := "StoryMachineModel") (T := T_Mo) (N := 51) hx hb hts in_Mo hown hK hI 0 kM_0 rfl 0 (by decide) (hts _ mw_1063) rfl d_Mo_output_29 (fun z34 hz34 => ?_)
        refine sn_if_le (tgt := 37) hx hb d_Mo_output_32 (by decide) (fun b35 => ?_) (fun b35 => ?_)
        · refine lv_iload_n hx hb d_Mo_output_37 rfl (lv_at hl 1 rfl) ?_
          refine sn_if_ge (tgt := 48) hx hb d_Mo_output_38 (by decide) (fun b36 => ?_) (fun b36 => ?_)
          · refine lv_aload_n hx hb d_Mo_output_48 rfl (lv_at hl 0 rfl) ?_
            refine sv_getr (C := "StoryMachineModel") (T := T_Mo) (N := 51) hx hb hts in_Mo hown hK hI 0 kM_0 rfl 32 (by decide) (hts _ mw_1095) rfl d_Mo_output_49 ?_
            refine lv_aload_n hx hb d_Mo_output_52 rfl (lv_at hl 0 rfl) ?_
            refine sv_gete (C := "StoryMachineModel") (T := T_Mo) (N := 51) hx hb hts in_Mo hown hK hI 0 kM_0 rfl 31 (by decide) (hts _ mw_1094) rfl d_Mo_output_53 (fun z37 hz37 => ?_)
            refine sn_iconst hx hb d_Mo_output_56 (by decide) (fun z38 hz38 => ?_)
            refine sn_isub hx hb d_Mo_output_57 (by omega) (by omega) (fun z39 hz39 => ?_)
            refine lv_iload_n hx hb d_Mo_output_58 rfl (lv_at hl 1 rfl) ?_
            refine sn_isub hx hb d_Mo_output_59 (by omega) (by omega) (fun z40 hz40 => ?_)
            refine sn_bipush hx hb d_Mo_output_60 (by decide) (fun z41 hz41 => ?_)
            refine sn_irem (k := 64) hx hb d_Mo_output_62 (by omega) (by omega) (by omega) (fun z42 hz42 => ?_)
            refine sv_ialdr hx hb hK hI 15 kM_15 (by omega) (by omega) d_Mo_output_63 (fun z43 hz43a hz43b => ?_)
            have ho44 : okM z33.toInt tr dp zi co sh lt ts mf := ⟨⟨by omega, by omega⟩, hok.2.1, hok.2.2.1, hok.2.2.2.1, hok.2.2.2.2.1, hok.2.2.2.2.2.1, hok.2.2.2.2.2.2.1, hok.2.2.2.2.2.2.2.1, hok.2.2.2.2.2.2.2.2⟩
            subst hZ
            exact tz_ret (W.iret (v := z43) hx hb hr (fun t ht hW => ⟨⟨fun v9 hv9 => by cases hv9; exact (⟨z43, z33.toInt, rfl, ho44, by omega, by omega, by omega, by rw [ht]; exact hI.1⟩), fun x9 hx9 => (by cases hx9)⟩, hI.2.F ht⟩) hI.2.2.2 d_Mo_output_64)
          · refine lv_aload_n hx hb d_Mo_output_41 rfl (lv_at hl 0 rfl) ?_
            refine sv_gete (C := "StoryMachineModel") (T := T_Mo) (N := 51) hx hb hts in_Mo hown hK hI 0 kM_0 rfl 31 (by decide) (hts _ mw_1094) rfl d_Mo_output_42 (fun z45 hz45 => ?_)
            refine lv_goto (tgt := 64) hx hb d_Mo_output_45 (by decide) ?_
            have ho46 : okM z33.toInt tr dp zi co sh lt ts mf := ⟨⟨by omega, by omega⟩, hok.2.1, hok.2.2.1, hok.2.2.2.1, hok.2.2.2.2.1, hok.2.2.2.2.2.1, hok.2.2.2.2.2.2.1, hok.2.2.2.2.2.2.2.1, hok.2.2.2.2.2.2.2.2⟩
            subst hZ
            exact tz_ret (W.iret (v := z45) hx hb hr (fun t ht hW => ⟨⟨fun v9 hv9 => by cases hv9; exact (⟨z45, z33.toInt, rfl, ho46, by omega, by omega, by omega, by rw [ht]; exact hI.1⟩), fun x9 hx9 => (by cases hx9)⟩, hI.2.F ht⟩) hI.2.2.2 d_Mo_output_64)
        · omega
      · refine sn_iconst hx hb d_Mo_output_20 (by decide) (fun z47 hz47 => ?_)
        refine lv_goto (tgt := 25) hx hb d_Mo_output_21 (by decide) ?_
        refine sv_put (C := "StoryMachineModel") (T := T_Mo) (N := 51) (ty := .int) hx hb hts in_Mo t_Mo tk_Mo nm_Mo hown hK (sh_in adM_map hAC) hI 0 kM_0 rfl 0 (by decide) (hts _ mw_1063) rfl (by decide +kernel) rfl rfl (Nat.le_of_ble_eq_true rfl) (Int.le_refl _) (Int.le_refl _) pM_0_0 d_Mo_output_25 (fun H locs hI => ?_)
        refine lv_aload_n hx hb d_Mo_output_28 rfl (lv_at hl 0 rfl) ?_
        refine sv_gete (C := "StoryMachineModel") (T := T_Mo) (N := 51) hx hb hts in_Mo hown hK hI 0 kM_0 rfl 0 (by decide) (hts _ mw_1063) rfl d_Mo_output_29 (fun z48 hz48 => ?_)
        refine sn_if_le (tgt := 37) hx hb d_Mo_output_32 (by decide) (fun b49 => ?_) (fun b49 => ?_)
        · omega
        · refine sn_iconst hx hb d_Mo_output_35 (by decide) (fun z50 hz50 => ?_)
          have ho51 : okM z47.toInt tr dp zi co sh lt ts mf := ⟨⟨by omega, by omega⟩, hok.2.1, hok.2.2.1, hok.2.2.2.1, hok.2.2.2.2.1, hok.2.2.2.2.2.1, hok.2.2.2.2.2.2.1, hok.2.2.2.2.2.2.2.1, hok.2.2.2.2.2.2.2.2⟩
          subst hZ
          exact tz_ret (W.iret (v := z50) hx hb hr (fun t ht hW => ⟨⟨fun v9 hv9 => by cases hv9; exact (⟨z50, z47.toInt, rfl, ho51, by omega, by omega, by omega, by rw [ht]; exact hI.1⟩), fun x9 hx9 => (by cases hx9)⟩, hI.2.F ht⟩) hI.2.2.2 d_Mo_output_36)
abbrev q_Mo_stack (dC : Nat → ClassId) (dI : Nat → Nat → Nat) (cI cJ : ClassId) (a : Nat → Nat) (th tr dp zi co sh lt ts : Int) (mf : Nat → Int32) (x1 : Int32) : Outcome → State → Prop := fun o t => (∀ v, o = .returned v → ((∃ (z : Int32) (th_ : Int), v = some (.int z) ∧ okM th_ tr dp zi co sh lt ts mf ∧ (0 ≤ z.toInt) ∧ (z.toInt ≤ 65535) ∧ (th_ ≤ 1) ∧ sh_I (dC, dI) vcl cI cJ (gsM a th_ tr dp zi co sh lt ts mf) t.heap))) ∧ (∀ x, o = .threw x → (False))
def rm_Mo_stack : Room := { frames := 0, cells := 0, slots := 0, locals := 0 }
set_option maxHeartbeats 4000000 in
set_option maxRecDepth 100000 in
theorem c_Mo_stack (l : Launch) (hfl : l.flags = pinnedFlags ++ [noTraceFlag]) (dC : Nat → ClassId) (dI : Nat → Nat → Nat) (cI cJ : ClassId) (a : Nat → Nat) (sz : Nat) (th tr dp zi co sh lt ts : Int) (mf : Nat → Int32) (x1 : Int32) (hok : okM th tr dp zi co sh lt ts mf) : tz_Met l ⟨"StoryMachineModel", "stack", "(I)I"⟩ tw_tbl rm_Mo_stack (tzP (dC, dI) vcl cI cJ (gsM a th tr dp zi co sh lt ts mf) a (adM a) [.ref (a 0), .int x1] sz) (tq_Q (q_Mo_stack dC dI cI cJ a th tr dp zi co sh lt ts mf x1) (ga (adM a) sz)) 0 0 0 0 (ga (adM a) sz) := by
  refine tz_ofW (cc := prog_13_method_82_code) (maxL := 2) (ret := (some .int)) (by decide) (tx_isM mw_1538) ?_
  intro p e s m args below meth c s₁ B hml hv
  obtain ⟨rfl, hsz, hI0, hK, hst0⟩ := hv
  have hx := B.exec
  have hb := B.bytes
  have hr := B.returns
  have hts := atoms_spec (ws := tw_tbl) B.pre
  have hown : s.vm.findClass "StoryMachineModel" = some m.cls := findClass_of_methodNamed B.named
  have hlocks := B.notSynchronized
  subst hsz
  have hst := fun (H : Heap) (locs : List Loc) (hS : va_S (ga (adM a) s.heap.size) s.heap H locs) (U : State) (hU : U.heap = H) (hW : s.WarmedH U.vm) => zS_all adM_map hI0 hst0 hS hU hW
  have hAC : ∀ q ∈ adM a, ga (adM a) s.heap.size q := fun q h => Or.inl h
  have hA0 : ∀ q, s.heap.size ≤ q → ga (adM a) s.heap.size q := fun q h => Or.inr h
  have hI : sI (dC, dI) vcl cI cJ (gsM a th tr dp zi co sh lt ts mf) (ga (adM a) s.heap.size) s.heap s.heap [] := ⟨hI0, va_S.rf⟩
  clear hI0 hst0
  have hl := lv_entry ([.ref (a 0), .int x1]) (n := 2) (Nat.le_of_ble_eq_true rfl)
  rw [lg_entry_eq]
  generalize (lg_sl ([.ref (a 0), .int x1]) ++ List.replicate (2 - (lg_sl ([.ref (a 0), .int x1])).length) Slot.unset).toArray = ls at hl ⊢
  have hl : lv_has ls 2 [(0, .ref (a 0)), (1, .int x1)] := hl
  generalize hZ : tz_MQ below (tq_Q (q_Mo_stack dC dI cI cJ a th tr dp zi co sh lt ts mf x1) (ga (adM a) s.heap.size)) ([.ref (a 0), .int x1] : List Value).toArray s 0 0 0 0 (ga (adM a) s.heap.size) = Z
  obtain ⟨A, hAe⟩ : ∃ A, A = ga (adM a) s.heap.size := ⟨_, rfl⟩
  rw [← hAe] at hst hAC hA0 hI hZ
  refine sv_start hI (fun H locs hI => ?_)
  obtain ⟨⟨o1, o2⟩, ⟨o3, o4⟩, ⟨o5, o6⟩, ⟨o7, o8⟩, ⟨o9, o10⟩, ⟨o11, o12⟩, ⟨o13, o14⟩, ⟨o15, o16⟩, -⟩ := id hok
  have gx1 := sn_rng x1
  refine lv_aload_n hx hb d_Mo_stack_0 rfl (lv_at hl 0 rfl) ?_
  refine lv_iload_n hx hb d_Mo_stack_1 rfl (lv_at hl 1 rfl) ?_
  refine sn_iconst hx hb d_Mo_stack_2 (by decide) (fun z17 hz17 => ?_)
  refine sn_icmp_lt (tgt := 14) hx hb d_Mo_stack_3 (by decide) (fun b18 => ?_) (fun b18 => ?_)
  · refine sn_iconst hx hb d_Mo_stack_14 (by decide) (fun z19 hz19 => ?_)
    refine lv_goto (tgt := 19) hx hb d_Mo_stack_15 (by decide) ?_
    refine sv_put (C := "StoryMachineModel") (T := T_Mo) (N := 51) (ty := .int) hx hb hts in_Mo t_Mo tk_Mo nm_Mo hown hK (sh_in adM_map hAC) hI 0 kM_0 rfl 0 (by decide) (hts _ mw_1063) rfl (by decide +kernel) rfl rfl (Nat.le_of_ble_eq_true rfl) (Int.le_refl _) (Int.le_refl _) pM_0_0 d_Mo_stack_19 (fun H locs hI => ?_)
    refine lv_aload_n hx hb d_Mo_stack_22 rfl (lv_at hl 0 rfl) ?_
    refine sv_gete (C := "StoryMachineModel") (T := T_Mo) (N := 51) hx hb hts in_Mo hown hK hI 0 kM_0 rfl 0 (by decide) (hts _ mw_1063) rfl d_Mo_stack_23 (fun z20 hz20 => ?_)
    refine sn_if_le (tgt := 31) hx hb d_Mo_stack_26 (by decide) (fun b21 => ?_) (fun b21 => ?_)
    · omega
    · refine sn_iconst hx hb d_Mo_stack_29 (by decide) (fun z22 hz22 => ?_)
      have ho23 : okM z19.toInt tr dp zi co sh lt ts mf := ⟨⟨by omega, by omega⟩, hok.2.1, hok.2.2.1, hok.2.2.2.1, hok.2.2.2.2.1, hok.2.2.2.2.2.1, hok.2.2.2.2.2.2.1, hok.2.2.2.2.2.2.2.1, hok.2.2.2.2.2.2.2.2⟩
      subst hZ
      exact tz_ret (W.iret (v := z22) hx hb hr (fun t ht hW => ⟨⟨fun v9 hv9 => by cases hv9; exact (⟨z22, z19.toInt, rfl, ho23, by omega, by omega, by omega, by rw [ht]; exact hI.1⟩), fun x9 hx9 => (by cases hx9)⟩, hI.2.F ht⟩) hI.2.2.2 d_Mo_stack_30)
  · refine lv_iload_n hx hb d_Mo_stack_6 rfl (lv_at hl 1 rfl) ?_
    refine lv_aload_n hx hb d_Mo_stack_7 rfl (lv_at hl 0 rfl) ?_
    refine sv_gete (C := "StoryMachineModel") (T := T_Mo) (N := 51) hx hb hts in_Mo hown hK hI 0 kM_0 rfl 2 (by decide) (hts _ mw_1065) rfl d_Mo_stack_8 (fun z24 hz24 => ?_)
    refine sn_icmp_lt (tgt := 18) hx hb d_Mo_stack_11 (by decide) (fun b25 => ?_) (fun b25 => ?_)
    · refine sn_iconst hx hb d_Mo_stack_18 (by decide) (fun z26 hz26 => ?_)
      refine sv_put (C := "StoryMachineModel") (T := T_Mo) (N := 51) (ty := .int) hx hb hts in_Mo t_Mo tk_Mo nm_Mo hown hK (sh_in adM_map hAC) hI 0 kM_0 rfl 0 (by decide) (hts _ mw_1063) rfl (by decide +kernel) rfl rfl (Nat.le_of_ble_eq_true rfl) (Int.le_refl _) (Int.le_refl _) pM_0_0 d_Mo_stack_19 (fun H locs hI => ?_)
      refine lv_aload_n hx hb d_Mo_stack_22 rfl (lv_at hl 0 rfl) ?_
      refine sv_gete (C := "StoryMachineModel") (T := T_Mo) (N := 51) hx hb hts in_Mo hown hK hI 0 kM_0 rfl 0 (by decide) (hts _ mw_1063) rfl d_Mo_stack_23 (fun z27 hz27 => ?_)
      refine sn_if_le (tgt := 31) hx hb d_Mo_stack_26 (by decide) (fun b28 => ?_) (fun b28 => ?_)
      · refine lv_iload_n hx hb d_Mo_stack_31 rfl (lv_at hl 1 rfl) ?_
        refine sn_if_ge (tgt := 42) hx hb d_Mo_stack_32 (by decide) (fun b29 => ?_) (fun b29 => ?_)
        · refine lv_aload_n hx hb d_Mo_stack_42 rfl (lv_at hl 0 rfl) ?_
          refine sv_getr (C := "StoryMachineModel") (T := T_Mo) (N := 51) hx hb hts in_Mo hown hK hI 0 kM_0 rfl 3 (by decide) (hts _ mw_1066) rfl d_Mo_stack_43 ?_
          refine lv_aload_n hx hb d_Mo_stack_46 rfl (lv_at hl 0 rfl) ?_
          refine sv_gete (C := "StoryMachineModel") (T := T_Mo) (N := 51) hx hb hts in_Mo hown hK hI 0 kM_0 rfl 2 (by decide) (hts _ mw_1065) rfl d_Mo_stack_47 (fun z30 hz30 => ?_)
          refine sn_iconst hx hb d_Mo_stack_50 (by decide) (fun z31 hz31 => ?_)
          refine sn_isub hx hb d_Mo_stack_51 (by omega) (by omega) (fun z32 hz32 => ?_)
          refine lv_iload_n hx hb d_Mo_stack_52 rfl (lv_at hl 1 rfl) ?_
          refine sn_isub hx hb d_Mo_stack_53 (by omega) (by omega) (fun z33 hz33 => ?_)
          refine sv_ialdr hx hb hK hI 2 kM_2 (by omega) (by omega) d_Mo_stack_54 (fun z34 hz34a hz34b => ?_)
          have ho35 : okM z26.toInt tr dp zi co sh lt ts mf := ⟨⟨by omega, by omega⟩, hok.2.1, hok.2.2.1, hok.2.2.2.1, hok.2.2.2.2.1, hok.2.2.2.2.2.1, hok.2.2.2.2.2.2.1, hok.2.2.2.2.2.2.2.1, hok.2.2.2.2.2.2.2.2⟩
          subst hZ
          exact tz_ret (W.iret (v := z34) hx hb hr (fun t ht hW => ⟨⟨fun v9 hv9 => by cases hv9; exact (⟨z34, z26.toInt, rfl, ho35, by omega, by omega, by omega, by rw [ht]; exact hI.1⟩), fun x9 hx9 => (by cases hx9)⟩, hI.2.F ht⟩) hI.2.2.2 d_Mo_stack_55)
        · refine lv_aload_n hx hb d_Mo_stack_35 rfl (lv_at hl 0 rfl) ?_
          refine sv_gete (C := "StoryMachineModel") (T := T_Mo) (N := 51) hx hb hts in_Mo hown hK hI 0 kM_0 rfl 2 (by decide) (hts _ mw_1065) rfl d_Mo_stack_36 (fun z36 hz36 => ?_)
          refine lv_goto (tgt := 55) hx hb d_Mo_stack_39 (by decide) ?_
          have ho37 : okM z26.toInt tr dp zi co sh lt ts mf := ⟨⟨by omega, by omega⟩, hok.2.1, hok.2.2.1, hok.2.2.2.1, hok.2.2.2.2.1, hok.2.2.2.2.2.1, hok.2.2.2.2.2.2.1, hok.2.2.2.2.2.2.2.1, hok.2.2.2.2.2.2.2.2⟩
          subst hZ
          exact tz_ret (W.iret (v := z36) hx hb hr (fun t ht hW => ⟨⟨fun v9 hv9 => by cases hv9; exact (⟨z36, z26.toInt, rfl, ho37, by omega, by omega, by omega, by rw [ht]; exact hI.1⟩), fun x9 hx9 => (by cases hx9)⟩, hI.2.F ht⟩) hI.2.2.2 d_Mo_stack_55)
      · omega
    · refine sn_iconst hx hb d_Mo_stack_14 (by decide) (fun z38 hz38 => ?_)
      refine lv_goto (tgt := 19) hx hb d_Mo_stack_15 (by decide) ?_
      refine sv_put (C := "StoryMachineModel") (T := T_Mo) (N := 51) (ty := .int) hx hb hts in_Mo t_Mo tk_Mo nm_Mo hown hK (sh_in adM_map hAC) hI 0 kM_0 rfl 0 (by decide) (hts _ mw_1063) rfl (by decide +kernel) rfl rfl (Nat.le_of_ble_eq_true rfl) (Int.le_refl _) (Int.le_refl _) pM_0_0 d_Mo_stack_19 (fun H locs hI => ?_)
      refine lv_aload_n hx hb d_Mo_stack_22 rfl (lv_at hl 0 rfl) ?_
      refine sv_gete (C := "StoryMachineModel") (T := T_Mo) (N := 51) hx hb hts in_Mo hown hK hI 0 kM_0 rfl 0 (by decide) (hts _ mw_1063) rfl d_Mo_stack_23 (fun z39 hz39 => ?_)
      refine sn_if_le (tgt := 31) hx hb d_Mo_stack_26 (by decide) (fun b40 => ?_) (fun b40 => ?_)
      · omega
      · refine sn_iconst hx hb d_Mo_stack_29 (by decide) (fun z41 hz41 => ?_)
        have ho42 : okM z38.toInt tr dp zi co sh lt ts mf := ⟨⟨by omega, by omega⟩, hok.2.1, hok.2.2.1, hok.2.2.2.1, hok.2.2.2.2.1, hok.2.2.2.2.2.1, hok.2.2.2.2.2.2.1, hok.2.2.2.2.2.2.2.1, hok.2.2.2.2.2.2.2.2⟩
        subst hZ
        exact tz_ret (W.iret (v := z41) hx hb hr (fun t ht hW => ⟨⟨fun v9 hv9 => by cases hv9; exact (⟨z41, z38.toInt, rfl, ho42, by omega, by omega, by omega, by rw [ht]; exact hI.1⟩), fun x9 hx9 => (by cases hx9)⟩, hI.2.F ht⟩) hI.2.2.2 d_Mo_stack_30)
