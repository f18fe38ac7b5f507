abbrev q_Mo_second (dC : Nat → ClassId) (dI : Nat → Nat → Nat) (cI cJ : ClassId) (a : Nat → Nat) (th tr dp zi co sh lt ts : Int) (mf : Nat → Int32) (x1 : Int32) (x2 : Int32) (x3 : Int32) : Outcome → State → Prop := fun o t => (∀ v, o = .returned v → ((∃ (tr_ dp_ zi_ : Int) (mf_ : Nat → Int32), v = none ∧ okM th tr_ dp_ zi_ co sh lt ts mf_ ∧ (1 ≤ tr_) ∧ sh_I (dC, dI) vcl cI cJ (gsM a th tr_ dp_ zi_ co sh lt ts mf_) t.heap) ∨ (∃ (dp_ zi_ : Int) (mf_ : Nat → Int32), v = none ∧ okM th tr dp_ zi_ co sh lt ts mf_ ∧ (tr ≤ 0) ∧ sh_I (dC, dI) vcl cI cJ (gsM a th tr dp_ zi_ co sh lt ts mf_) t.heap))) ∧ (∀ x, o = .threw x → (False))
def rm_Mo_second : Room := { frames := 9, cells := 0, slots := 0, locals := 204 }
set_option maxHeartbeats 4000000 in
set_option maxRecDepth 100000 in
theorem c_Mo_second (l : Launch) (hfl : l.flags = pinnedFlags ++ [noTraceFlag]) (dC : Nat → ClassId) (dI : Nat → Nat → Nat) (cI cJ : ClassId) (a : Nat → Nat) (sz : Nat) (th tr dp zi co sh lt ts : Int) (mf : Nat → Int32) (x1 : Int32) (x2 : Int32) (x3 : Int32) (hok : okM th tr dp zi co sh lt ts mf) (hp0 : 0 ≤ x1.toInt) (hp1 : x1.toInt ≤ 31) (hp2 : 0 ≤ x2.toInt) (hp3 : x2.toInt ≤ 65535) (hp4 : 0 ≤ x3.toInt) (hp5 : x3.toInt ≤ 65535) : tz_Met l ⟨"StoryMachineModel", "second", "(III)V"⟩ tw_tbl rm_Mo_second (tzP (dC, dI) vcl cI cJ (gsM a th tr dp zi co sh lt ts mf) a (adM a) [.ref (a 0), .int x1, .int x2, .int x3] sz) (tq_Q (q_Mo_second dC dI cI cJ a th tr dp zi co sh lt ts mf x1 x2 x3) (ga (adM a) sz)) 0 0 0 0 (ga (adM a) sz) := by
  refine tz_ofW (cc := prog_13_method_48_code) (maxL := 6) (ret := none) (by decide) (tx_isM mw_1284) ?_
  intro p e s m args below meth c s₁ B hml hv
  obtain ⟨rfl, hsz, hI0, hK, hst0⟩ := hv
  have hx := B.exec
  have hb := B.bytes
  have hr := B.returns
  have hts := atoms_spec (ws := tw_tbl) B.pre
  have hown : s.vm.findClass "StoryMachineModel" = some m.cls := findClass_of_methodNamed B.named
  have hlocks := B.notSynchronized
  subst hsz
  have hst := fun (H : Heap) (locs : List Loc) (hS : va_S (ga (adM a) s.heap.size) s.heap H locs) (U : State) (hU : U.heap = H) (hW : s.WarmedH U.vm) => zS_all adM_map hI0 hst0 hS hU hW
  have hAC : ∀ q ∈ adM a, ga (adM a) s.heap.size q := fun q h => Or.inl h
  have hA0 : ∀ q, s.heap.size ≤ q → ga (adM a) s.heap.size q := fun q h => Or.inr h
  have hI : sI (dC, dI) vcl cI cJ (gsM a th tr dp zi co sh lt ts mf) (ga (adM a) s.heap.size) s.heap s.heap [] := ⟨hI0, va_S.rf⟩
  clear hI0 hst0
  have hl := lv_entry ([.ref (a 0), .int x1, .int x2, .int x3]) (n := 6) (Nat.le_of_ble_eq_true rfl)
  rw [lg_entry_eq]
  generalize (lg_sl ([.ref (a 0), .int x1, .int x2, .int x3]) ++ List.replicate (6 - (lg_sl ([.ref (a 0), .int x1, .int x2, .int x3])).length) Slot.unset).toArray = ls at hl ⊢
  have hl : lv_has ls 6 [(0, .ref (a 0)), (1, .int x1), (2, .int x2), (3, .int x3)] := hl
  generalize hZ : tz_MQ below (tq_Q (q_Mo_second dC dI cI cJ a th tr dp zi co sh lt ts mf x1 x2 x3) (ga (adM a) s.heap.size)) ([.ref (a 0), .int x1, .int x2, .int x3] : List Value).toArray s 0 0 0 0 (ga (adM a) s.heap.size) = Z
  obtain ⟨A, hAe⟩ : ∃ A, A = ga (adM a) s.heap.size := ⟨_, rfl⟩
  rw [← hAe] at hst hAC hA0 hI hZ
  refine sv_start hI (fun H locs hI => ?_)
  obtain ⟨⟨o1, o2⟩, ⟨o3, o4⟩, ⟨o5, o6⟩, ⟨o7, o8⟩, ⟨o9, o10⟩, ⟨o11, o12⟩, ⟨o13, o14⟩, ⟨o15, o16⟩, -⟩ := id hok
  have gx1 := sn_rng x1
  have gx2 := sn_rng x2
  have gx3 := sn_rng x3
  have j6u : ∀ (n : Nat) (H : Heap) (locs : List Loc) (ls : Array Slot) (v6u_4 v6u_5 : Int32), sI (dC, dI) vcl cI cJ (gsM a th tr dp zi co sh lt ts mf) A s.heap H locs → okM th tr dp zi co sh lt ts mf → 0 ≤ v6u_4.toInt → v6u_4.toInt ≤ 1 → 1 ≤ v6u_5.toInt → v6u_5.toInt ≤ 4 → lv_has ls 6 [(0, .ref (a 0)), (1, .int x1), (2, .int x2), (3, .int x3), (4, .int v6u_4), (5, .int v6u_5)] → 4 - v6u_5.toInt < (n : Int) → W p l e (headSpec tw_tbl rm_Mo_second).room s m ([.ref (a 0), .int x1, .int x2, .int x3] : List Value).toArray below meth c H locs 0 0 Z (F0 m 6 ls []) := by
    intro n
    induction n with
    | zero => intro H locs ls v6u_4 v6u_5 hI hok g6_0 g6_1 g6_2 g6_3 hl hme; exfalso; obtain ⟨⟨o17, o18⟩, ⟨o19, o20⟩, ⟨o21, o22⟩, ⟨o23, o24⟩, ⟨o25, o26⟩, ⟨o27, o28⟩, ⟨o29, o30⟩, ⟨o31, o32⟩, -⟩ := id hok; omega
    | succ n ih =>
      intro H locs ls v6u_4 v6u_5 hI hok g6_0 g6_1 g6_2 g6_3 hl hme
      obtain ⟨⟨o33, o34⟩, ⟨o35, o36⟩, ⟨o37, o38⟩, ⟨o39, o40⟩, ⟨o41, o42⟩, ⟨o43, o44⟩, ⟨o45, o46⟩, ⟨o47, o48⟩, -⟩ := id hok
      have j31u : ∀ (H : Heap) (locs : List Loc) (ls : Array Slot), sI (dC, dI) vcl cI cJ (gsM a th tr dp zi co sh lt ts mf) A s.heap H locs → okM th tr dp zi co sh lt ts mf → 2 ≤ co → v6u_5.toInt ≤ 3 → lv_has ls 6 [(0, .ref (a 0)), (1, .int x1), (2, .int x2), (3, .int x3), (4, .int v6u_4), (5, .int v6u_5)] → W p l e (headSpec tw_tbl rm_Mo_second).room s m ([.ref (a 0), .int x1, .int x2, .int x3] : List Value).toArray below meth c H locs 0 0 Z (F0 m 31 ls []) := by
        intro H locs ls hI hok g31_0 g31_1 hl
        obtain ⟨⟨o49, o50⟩, ⟨o51, o52⟩, ⟨o53, o54⟩, ⟨o55, o56⟩, ⟨o57, o58⟩, ⟨o59, o60⟩, ⟨o61, o62⟩, ⟨o63, o64⟩, -⟩ := id hok
        refine sn_iconst hx hb d_Mo_second_31 (by decide) (fun z65 hz65 => ?_)
        refine lv_goto (tgt := 36) hx hb d_Mo_second_32 (by decide) ?_
        refine lv_istore (lv' := [(4, .int z65), (0, .ref (a 0)), (1, .int x1), (2, .int x2), (3, .int x3), (5, .int v6u_5)]) hx hb d_Mo_second_36 hl (by decide) rfl (fun ls hl => ?_)
        refine sn_iinc (k := 5) hx hb d_Mo_second_38 hl rfl (by decide) (by decide) (by omega) (by omega) (fun ls z66 hz66 hl => ?_)
        have hl : lv_has ls 6 [(5, .int z66), (4, .int z65), (0, .ref (a 0)), (1, .int x1), (2, .int x2), (3, .int x3)] := hl
        refine lv_goto (tgt := 6) hx hb d_Mo_second_41 (by decide) ?_
        exact ih _ _ _ z65 z66 hI hok (by omega) (by omega) (by omega) (by omega) (lv_sub hl [2, 3, 4, 5, 1, 0] rfl) (by omega)
      refine lv_iload hx hb d_Mo_second_6 (lv_at hl 5 rfl) ?_
      refine lv_aload_n hx hb d_Mo_second_8 rfl (lv_at hl 0 rfl) ?_
      refine sv_gete (C := "StoryMachineModel") (T := T_Mo) (N := 51) hx hb hts in_Mo hown hK hI 0 kM_0 rfl 38 (by decide) (hts _ mw_1101) rfl d_Mo_second_9 (fun z67 hz67 => ?_)
      refine sn_icmp_ge (tgt := 44) hx hb d_Mo_second_12 (by decide) (fun b68 => ?_) (fun b68 => ?_)
      · refine lv_iload_n hx hb d_Mo_second_44 rfl (lv_at hl 1 rfl) ?_
        refine sn_iconst hx hb d_Mo_second_45 (by decide) (fun z69 hz69 => ?_)
        refine sn_icmp_ne (tgt := 58) hx hb d_Mo_second_46 (by decide) (fun b70 => ?_) (fun b70 => ?_)
        · refine lv_iload_n hx hb d_Mo_second_58 rfl (lv_at hl 1 rfl) ?_
          refine sn_iconst hx hb d_Mo_second_59 (by decide) (fun z71 hz71 => ?_)
          refine sn_icmp_ne (tgt := 86) hx hb d_Mo_second_60 (by decide) (fun b72 => ?_) (fun b72 => ?_)
          · refine lv_iload_n hx hb d_Mo_second_86 rfl (lv_at hl 1 rfl) ?_
            refine sn_iconst hx hb d_Mo_second_87 (by decide) (fun z73 hz73 => ?_)
            refine sn_icmp_ne (tgt := 114) hx hb d_Mo_second_88 (by decide) (fun b74 => ?_) (fun b74 => ?_)
            · refine lv_iload_n hx hb d_Mo_second_114 rfl (lv_at hl 1 rfl) ?_
              refine sn_iconst hx hb d_Mo_second_115 (by decide) (fun z75 hz75 => ?_)
              refine sn_icmp_ne (tgt := 144) hx hb d_Mo_second_116 (by decide) (fun b76 => ?_) (fun b76 => ?_)
              · refine lv_iload_n hx hb d_Mo_second_144 rfl (lv_at hl 1 rfl) ?_
                refine sn_iconst hx hb d_Mo_second_145 (by decide) (fun z77 hz77 => ?_)
                refine sn_icmp_ne (tgt := 174) hx hb d_Mo_second_146 (by decide) (fun b78 => ?_) (fun b78 => ?_)
                · refine lv_iload_n hx hb d_Mo_second_174 rfl (lv_at hl 1 rfl) ?_
                  refine sn_bipush hx hb d_Mo_second_175 (by decide) (fun z79 hz79 => ?_)
                  refine sn_icmp_ne (tgt := 202) hx hb d_Mo_second_177 (by decide) (fun b80 => ?_) (fun b80 => ?_)
                  · refine lv_iload_n hx hb d_Mo_second_202 rfl (lv_at hl 1 rfl) ?_
                    refine sn_bipush hx hb d_Mo_second_203 (by decide) (fun z81 hz81 => ?_)
                    refine sn_icmp_ne (tgt := 227) hx hb d_Mo_second_205 (by decide) (fun b82 => ?_) (fun b82 => ?_)
                    · refine lv_iload_n hx hb d_Mo_second_227 rfl (lv_at hl 1 rfl) ?_
                      refine sn_bipush hx hb d_Mo_second_228 (by decide) (fun z83 hz83 => ?_)
                      refine sn_icmp_ne (tgt := 243) hx hb d_Mo_second_230 (by decide) (fun b84 => ?_) (fun b84 => ?_)
                      · refine lv_iload_n hx hb d_Mo_second_243 rfl (lv_at hl 1 rfl) ?_
                        refine sn_bipush hx hb d_Mo_second_244 (by decide) (fun z85 hz85 => ?_)
                        refine sn_icmp_ne (tgt := 259) hx hb d_Mo_second_246 (by decide) (fun b86 => ?_) (fun b86 => ?_)
                        · refine lv_iload_n hx hb d_Mo_second_259 rfl (lv_at hl 1 rfl) ?_
                          refine sn_bipush hx hb d_Mo_second_260 (by decide) (fun z87 hz87 => ?_)
                          refine sn_icmp_ne (tgt := 278) hx hb d_Mo_second_262 (by decide) (fun b88 => ?_) (fun b88 => ?_)
                          · refine lv_iload_n hx hb d_Mo_second_278 rfl (lv_at hl 1 rfl) ?_
                            refine sn_bipush hx hb d_Mo_second_279 (by decide) (fun z89 hz89 => ?_)
                            refine sn_icmp_ne (tgt := 293) hx hb d_Mo_second_281 (by decide) (fun b90 => ?_) (fun b90 => ?_)
                            · refine lv_iload_n hx hb d_Mo_second_293 rfl (lv_at hl 1 rfl) ?_
                              refine sn_bipush hx hb d_Mo_second_294 (by decide) (fun z91 hz91 => ?_)
                              refine sn_icmp_ne (tgt := 308) hx hb d_Mo_second_296 (by decide) (fun b92 => ?_) (fun b92 => ?_)
                              · refine lv_iload_n hx hb d_Mo_second_308 rfl (lv_at hl 1 rfl) ?_
                                refine sn_bipush hx hb d_Mo_second_309 (by decide) (fun z93 hz93 => ?_)
                                refine sn_icmp_ge (tgt := 334) hx hb d_Mo_second_311 (by decide) (fun b94 => ?_) (fun b94 => ?_)
                                · refine lv_aload_n hx hb d_Mo_second_334 rfl (lv_at hl 0 rfl) ?_
                                  refine lv_iload_n hx hb d_Mo_second_335 rfl (lv_at hl 1 rfl) ?_
                                  refine lv_iload_n hx hb d_Mo_second_336 rfl (lv_at hl 2 rfl) ?_
                                  refine lv_iload_n hx hb d_Mo_second_337 rfl (lv_at hl 3 rfl) ?_
                                  refine tz_call (A1 := ga (adM a) H.size) (tz_runV (C := "StoryMachineModel") (As := [.int x1, .int x2, .int x3]) (rest := []) ⟨hx, hb, hml, hown, hts⟩ (c_Mo_reckon l hfl dC dI cI cJ a H.size th tr dp zi co sh lt ts mf x1 x2 x3 hok (by omega) (by omega) (by omega) (by omega) (by omega) (by omega)) (tx_cb (n := 3) hts rfl rfl ⟨Nat.le_of_ble_eq_true rfl, Nat.le_of_ble_eq_true rfl⟩ (tx_code.of (hts _ mw_1361)) (hts _ mw_12) (by decide +kernel) (hts _ mw_1358)) (hts _ mw_1360) (hts _ ms_Mo_reckon) ⟨tz_blind, sv_recv (q0 := 0) hts in_Mo hK hI kM_0 rfl, fun U hU hW => ⟨rfl, by rw [hU], by rw [hU]; exact hI.1, va_K.moved hW.alike hK, hst _ _ hI.2 U hU hW⟩⟩ rfl rfl hl.1 rfl (lv_room (Nat.le_of_ble_eq_true rfl)) d_Mo_second_338 ⟨Nat.le_of_ble_eq_true rfl, Nat.le_of_ble_eq_true rfl⟩) hI.2 (fun q _ h => ga_sub hAC hA0 hI.2 q h) (ga_sub hAC hA0 hI.2) (fun v t H1 locs1 ht hWt hpost _ _ hS => ?_) (fun x t H1 locs1 ht hWt hpost _ _ hS => (hpost.2 x rfl).elim)
                                  rcases hpost.1 _ rfl with ⟨t_tr95, hv, c96, c96_0, hI1⟩ | ⟨t_zi97, f_mf98, hv, c99, c99_0, hI1⟩
                                  · cases hv
                                    have hI : sI (dC, dI) vcl cI cJ (gsM a th t_tr95 dp zi co sh lt ts mf) A s.heap H1 locs1 := ⟨by rw [← ht]; exact hI1, hS⟩
                                    obtain ⟨-, ⟨o100, o101⟩, -, -, -, -, -, -, -⟩ := id c96
                                    clear hpost hI1 hS ht hWt
                                    revert hI; generalize H1 = H; generalize locs1 = locs; intro hI
                                    subst hZ
                                    exact tz_ret (W.vret hx hb hr (fun t ht hW => ⟨⟨fun v9 hv9 => by cases hv9; exact (Or.inl ⟨t_tr95, dp, zi, mf, rfl, c96, by omega, by rw [ht]; exact hI.1⟩), fun x9 hx9 => (by cases hx9)⟩, hI.2.F ht⟩) hI.2.2.2 d_Mo_second_341)
                                  · cases hv
                                    have hI : sI (dC, dI) vcl cI cJ (gsM a th tr dp t_zi97 co sh lt ts f_mf98) A s.heap H1 locs1 := ⟨by rw [← ht]; exact hI1, hS⟩
                                    obtain ⟨-, -, -, ⟨o102, o103⟩, -, -, -, -, -⟩ := id c99
                                    clear hpost hI1 hS ht hWt
                                    revert hI; generalize H1 = H; generalize locs1 = locs; intro hI
                                    subst hZ
                                    exact tz_ret (W.vret hx hb hr (fun t ht hW => ⟨⟨fun v9 hv9 => by cases hv9; exact (Or.inr (⟨dp, t_zi97, f_mf98, rfl, c99, by omega, by rw [ht]; exact hI.1⟩)), fun x9 hx9 => (by cases hx9)⟩, hI.2.F ht⟩) hI.2.2.2 d_Mo_second_341)
                                · refine lv_aload_n hx hb d_Mo_second_314 rfl (lv_at hl 0 rfl) ?_
                                  refine lv_iload_n hx hb d_Mo_second_315 rfl (lv_at hl 2 rfl) ?_
                                  refine lv_iload_n hx hb d_Mo_second_316 rfl (lv_at hl 3 rfl) ?_
                                  refine lv_iload_n hx hb d_Mo_second_317 rfl (lv_at hl 1 rfl) ?_
                                  refine sn_bipush hx hb d_Mo_second_318 (by decide) (fun z104 hz104 => ?_)
                                  refine sn_icmp_ne (tgt := 327) hx hb d_Mo_second_320 (by decide) (fun b105 => ?_) (fun b105 => ?_)
                                  · refine sn_iconst hx hb d_Mo_second_327 (by decide) (fun z106 hz106 => ?_)
                                    refine tz_call (A1 := ga (adM a) H.size) (tz_runV (C := "StoryMachineModel") (As := [.int x2, .int x3, .int z106]) (rest := []) ⟨hx, hb, hml, hown, hts⟩ (c_Mo_mark l hfl dC dI cI cJ a H.size th tr dp zi co sh lt ts mf x2 x3 z106 hok (by omega) (by omega) (by omega) (by omega) (by omega) (by omega)) (tx_cb (n := 3) hts rfl rfl ⟨Nat.le_of_ble_eq_true rfl, Nat.le_of_ble_eq_true rfl⟩ (tx_code.of (hts _ mw_1357)) (hts _ mw_12) (by decide +kernel) (hts _ mw_1354)) (hts _ mw_1356) (hts _ ms_Mo_mark) ⟨tz_blind, sv_recv (q0 := 0) hts in_Mo hK hI kM_0 rfl, fun U hU hW => ⟨rfl, by rw [hU], by rw [hU]; exact hI.1, va_K.moved hW.alike hK, hst _ _ hI.2 U hU hW⟩⟩ rfl rfl hl.1 rfl (lv_room (Nat.le_of_ble_eq_true rfl)) d_Mo_second_328 ⟨Nat.le_of_ble_eq_true rfl, Nat.le_of_ble_eq_true rfl⟩) hI.2 (fun q _ h => ga_sub hAC hA0 hI.2 q h) (ga_sub hAC hA0 hI.2) (fun v t H1 locs1 ht hWt hpost _ _ hS => ?_) (fun x t H1 locs1 ht hWt hpost _ _ hS => (hpost.2 x rfl).elim)
                                    rcases hpost.1 _ rfl with ⟨t_tr107, hv, c108, c108_0, hI1⟩ | ⟨f_mf109, hv, c110, c110_0, c110_1, c110_2, c110_3, hI1⟩
                                    · cases hv
                                      have hI : sI (dC, dI) vcl cI cJ (gsM a th t_tr107 dp zi co sh lt ts mf) A s.heap H1 locs1 := ⟨by rw [← ht]; exact hI1, hS⟩
                                      obtain ⟨-, ⟨o111, o112⟩, -, -, -, -, -, -, -⟩ := id c108
                                      clear hpost hI1 hS ht hWt
                                      revert hI; generalize H1 = H; generalize locs1 = locs; intro hI
                                      refine lv_goto (tgt := 341) hx hb d_Mo_second_331 (by decide) ?_
                                      subst hZ
                                      exact tz_ret (W.vret hx hb hr (fun t ht hW => ⟨⟨fun v9 hv9 => by cases hv9; exact (Or.inl ⟨t_tr107, dp, zi, mf, rfl, c108, by omega, by rw [ht]; exact hI.1⟩), fun x9 hx9 => (by cases hx9)⟩, hI.2.F ht⟩) hI.2.2.2 d_Mo_second_341)
                                    · cases hv
                                      have hI : sI (dC, dI) vcl cI cJ (gsM a th tr dp zi co sh lt ts f_mf109) A s.heap H1 locs1 := ⟨by rw [← ht]; exact hI1, hS⟩
                                      obtain ⟨-, -, -, -, -, -, -, -, -⟩ := id c110
                                      clear hpost hI1 hS ht hWt
                                      revert hI; generalize H1 = H; generalize locs1 = locs; intro hI
                                      refine lv_goto (tgt := 341) hx hb d_Mo_second_331 (by decide) ?_
                                      subst hZ
                                      exact tz_ret (W.vret hx hb hr (fun t ht hW => ⟨⟨fun v9 hv9 => by cases hv9; exact (Or.inr (⟨dp, zi, f_mf109, rfl, c110, by omega, by rw [ht]; exact hI.1⟩)), fun x9 hx9 => (by cases hx9)⟩, hI.2.F ht⟩) hI.2.2.2 d_Mo_second_341)
                                  · refine sn_iconst hx hb d_Mo_second_323 (by decide) (fun z113 hz113 => ?_)
                                    refine lv_goto (tgt := 328) hx hb d_Mo_second_324 (by decide) ?_
                                    refine tz_call (A1 := ga (adM a) H.size) (tz_runV (C := "StoryMachineModel") (As := [.int x2, .int x3, .int z113]) (rest := []) ⟨hx, hb, hml, hown, hts⟩ (c_Mo_mark l hfl dC dI cI cJ a H.size th tr dp zi co sh lt ts mf x2 x3 z113 hok (by omega) (by omega) (by omega) (by omega) (by omega) (by omega)) (tx_cb (n := 3) hts rfl rfl ⟨Nat.le_of_ble_eq_true rfl, Nat.le_of_ble_eq_true rfl⟩ (tx_code.of (hts _ mw_1357)) (hts _ mw_12) (by decide +kernel) (hts _ mw_1354)) (hts _ mw_1356) (hts _ ms_Mo_mark) ⟨tz_blind, sv_recv (q0 := 0) hts in_Mo hK hI kM_0 rfl, fun U hU hW => ⟨rfl, by rw [hU], by rw [hU]; exact hI.1, va_K.moved hW.alike hK, hst _ _ hI.2 U hU hW⟩⟩ rfl rfl hl.1 rfl (lv_room (Nat.le_of_ble_eq_true rfl)) d_Mo_second_328 ⟨Nat.le_of_ble_eq_true rfl, Nat.le_of_ble_eq_true rfl⟩) hI.2 (fun q _ h => ga_sub hAC hA0 hI.2 q h) (ga_sub hAC hA0 hI.2) (fun v t H1 locs1 ht hWt hpost _ _ hS => ?_) (fun x t H1 locs1 ht hWt hpost _ _ hS => (hpost.2 x rfl).elim)
                                    rcases hpost.1 _ rfl with ⟨t_tr114, hv, c115, c115_0, hI1⟩ | ⟨f_mf116, hv, c117, c117_0, c117_1, c117_2, c117_3, hI1⟩
                                    · cases hv
                                      have hI : sI (dC, dI) vcl cI cJ (gsM a th t_tr114 dp zi co sh lt ts mf) A s.heap H1 locs1 := ⟨by rw [← ht]; exact hI1, hS⟩
                                      obtain ⟨-, ⟨o118, o119⟩, -, -, -, -, -, -, -⟩ := id c115
                                      clear hpost hI1 hS ht hWt
                                      revert hI; generalize H1 = H; generalize locs1 = locs; intro hI
                                      refine lv_goto (tgt := 341) hx hb d_Mo_second_331 (by decide) ?_
                                      subst hZ
                                      exact tz_ret (W.vret hx hb hr (fun t ht hW => ⟨⟨fun v9 hv9 => by cases hv9; exact (Or.inl ⟨t_tr114, dp, zi, mf, rfl, c115, by omega, by rw [ht]; exact hI.1⟩), fun x9 hx9 => (by cases hx9)⟩, hI.2.F ht⟩) hI.2.2.2 d_Mo_second_341)
                                    · cases hv
                                      have hI : sI (dC, dI) vcl cI cJ (gsM a th tr dp zi co sh lt ts f_mf116) A s.heap H1 locs1 := ⟨by rw [← ht]; exact hI1, hS⟩
                                      obtain ⟨-, -, -, -, -, -, -, -, -⟩ := id c117
                                      clear hpost hI1 hS ht hWt
                                      revert hI; generalize H1 = H; generalize locs1 = locs; intro hI
                                      refine lv_goto (tgt := 341) hx hb d_Mo_second_331 (by decide) ?_
                                      subst hZ
                                      exact tz_ret (W.vret hx hb hr (fun t ht hW => ⟨⟨fun v9 hv9 => by cases hv9; exact (Or.inr (⟨dp, zi, f_mf116, rfl, c117, by omega, by rw [ht]; exact hI.1⟩)), fun x9 hx9 => (by cases hx9)⟩, hI.2.F ht⟩) hI.2.2.2 d_Mo_second_341)
                              · refine lv_aload_n hx hb d_Mo_second_299 rfl (lv_at hl 0 rfl) ?_
                                refine lv_iload_n hx hb d_Mo_second_300 rfl (lv_at hl 2 rfl) ?_
                                refine lv_iload_n hx hb d_Mo_second_301 rfl (lv_at hl 3 rfl) ?_
                                refine tz_call (A1 := ga (adM a) H.size) (tz_runV (C := "StoryMachineModel") (As := [.int x2, .int x3]) (rest := []) ⟨hx, hb, hml, hown, hts⟩ (c_Mo_insert l hfl dC dI cI cJ a H.size th tr dp zi co sh lt ts mf x2 x3 hok) (tx_cb (n := 2) hts rfl rfl ⟨Nat.le_of_ble_eq_true rfl, Nat.le_of_ble_eq_true rfl⟩ (tx_code.of (hts _ mw_1341)) (hts _ mw_12) (by decide +kernel) (hts _ mw_1338)) (hts _ mw_1340) (hts _ ms_Mo_insert) ⟨tz_blind, sv_recv (q0 := 0) hts in_Mo hK hI kM_0 rfl, fun U hU hW => ⟨rfl, by rw [hU], by rw [hU]; exact hI.1, va_K.moved hW.alike hK, hst _ _ hI.2 U hU hW⟩⟩ rfl rfl hl.1 rfl (lv_room (Nat.le_of_ble_eq_true rfl)) d_Mo_second_302 ⟨Nat.le_of_ble_eq_true rfl, Nat.le_of_ble_eq_true rfl⟩) hI.2 (fun q _ h => ga_sub hAC hA0 hI.2 q h) (ga_sub hAC hA0 hI.2) (fun v t H1 locs1 ht hWt hpost _ _ hS => ?_) (fun x t H1 locs1 ht hWt hpost _ _ hS => (hpost.2 x rfl).elim)
                                rcases hpost.1 _ rfl with ⟨t_tr120, f_mf121, hv, c122, c122_0, hI1⟩ | ⟨f_mf123, hv, c124, c124_0, c124_1, c124_2, c124_3, c124_4, hI1⟩
                                · cases hv
                                  have hI : sI (dC, dI) vcl cI cJ (gsM a th t_tr120 dp zi co sh lt ts f_mf121) A s.heap H1 locs1 := ⟨by rw [← ht]; exact hI1, hS⟩
                                  obtain ⟨-, ⟨o125, o126⟩, -, -, -, -, -, -, -⟩ := id c122
                                  clear hpost hI1 hS ht hWt
                                  revert hI; generalize H1 = H; generalize locs1 = locs; intro hI
                                  refine lv_goto (tgt := 341) hx hb d_Mo_second_305 (by decide) ?_
                                  subst hZ
                                  exact tz_ret (W.vret hx hb hr (fun t ht hW => ⟨⟨fun v9 hv9 => by cases hv9; exact (Or.inl ⟨t_tr120, dp, zi, f_mf121, rfl, c122, by omega, by rw [ht]; exact hI.1⟩), fun x9 hx9 => (by cases hx9)⟩, hI.2.F ht⟩) hI.2.2.2 d_Mo_second_341)
                                · cases hv
                                  have hI : sI (dC, dI) vcl cI cJ (gsM a th tr dp zi co sh lt ts f_mf123) A s.heap H1 locs1 := ⟨by rw [← ht]; exact hI1, hS⟩
                                  obtain ⟨-, -, -, -, -, -, -, -, -⟩ := id c124
                                  clear hpost hI1 hS ht hWt
                                  revert hI; generalize H1 = H; generalize locs1 = locs; intro hI
                                  refine lv_goto (tgt := 341) hx hb d_Mo_second_305 (by decide) ?_
                                  subst hZ
                                  exact tz_ret (W.vret hx hb hr (fun t ht hW => ⟨⟨fun v9 hv9 => by cases hv9; exact (Or.inr (⟨dp, zi, f_mf123, rfl, c124, by omega, by rw [ht]; exact hI.1⟩)), fun x9 hx9 => (by cases hx9)⟩, hI.2.F ht⟩) hI.2.2.2 d_Mo_second_341)
                            · refine lv_aload_n hx hb d_Mo_second_284 rfl (lv_at hl 0 rfl) ?_
                              refine lv_iload_n hx hb d_Mo_second_285 rfl (lv_at hl 2 rfl) ?_
                              refine lv_iload_n hx hb d_Mo_second_286 rfl (lv_at hl 3 rfl) ?_
                              refine tz_call (A1 := ga (adM a) H.size) (tz_runV (C := "StoryMachineModel") (As := [.int x2, .int x3]) (rest := []) ⟨hx, hb, hml, hown, hts⟩ (c_Mo_replace l hfl dC dI cI cJ a H.size th tr dp zi co sh lt ts mf x2 x3 hok) (tx_cb (n := 2) hts rfl rfl ⟨Nat.le_of_ble_eq_true rfl, Nat.le_of_ble_eq_true rfl⟩ (tx_code.of (hts _ mw_1305)) (hts _ mw_12) (by decide +kernel) (hts _ mw_1302)) (hts _ mw_1304) (hts _ ms_Mo_replace) ⟨tz_blind, sv_recv (q0 := 0) hts in_Mo hK hI kM_0 rfl, fun U hU hW => ⟨rfl, by rw [hU], by rw [hU]; exact hI.1, va_K.moved hW.alike hK, hst _ _ hI.2 U hU hW⟩⟩ rfl rfl hl.1 rfl (lv_room (Nat.le_of_ble_eq_true rfl)) d_Mo_second_287 ⟨Nat.le_of_ble_eq_true rfl, Nat.le_of_ble_eq_true rfl⟩) hI.2 (fun q _ h => ga_sub hAC hA0 hI.2 q h) (ga_sub hAC hA0 hI.2) (fun v t H1 locs1 ht hWt hpost _ _ hS => ?_) (fun x t H1 locs1 ht hWt hpost _ _ hS => (hpost.2 x rfl).elim)
                              rcases hpost.1 _ rfl with ⟨t_tr127, hv, c128, c128_0, hI1⟩ | ⟨f_mf129, hv, c130, c130_0, c130_1, hI1⟩
                              · cases hv
                                have hI : sI (dC, dI) vcl cI cJ (gsM a th t_tr127 dp zi co sh lt ts mf) A s.heap H1 locs1 := ⟨by rw [← ht]; exact hI1, hS⟩
                                obtain ⟨-, ⟨o131, o132⟩, -, -, -, -, -, -, -⟩ := id c128
                                clear hpost hI1 hS ht hWt
                                revert hI; generalize H1 = H; generalize locs1 = locs; intro hI
                                refine lv_goto (tgt := 341) hx hb d_Mo_second_290 (by decide) ?_
                                subst hZ
                                exact tz_ret (W.vret hx hb hr (fun t ht hW => ⟨⟨fun v9 hv9 => by cases hv9; exact (Or.inl ⟨t_tr127, dp, zi, mf, rfl, c128, by omega, by rw [ht]; exact hI.1⟩), fun x9 hx9 => (by cases hx9)⟩, hI.2.F ht⟩) hI.2.2.2 d_Mo_second_341)
                              · cases hv
                                have hI : sI (dC, dI) vcl cI cJ (gsM a th tr dp zi co sh lt ts f_mf129) A s.heap H1 locs1 := ⟨by rw [← ht]; exact hI1, hS⟩
                                obtain ⟨-, -, -, -, -, -, -, -, -⟩ := id c130
                                clear hpost hI1 hS ht hWt
                                revert hI; generalize H1 = H; generalize locs1 = locs; intro hI
                                refine lv_goto (tgt := 341) hx hb d_Mo_second_290 (by decide) ?_
                                subst hZ
                                exact tz_ret (W.vret hx hb hr (fun t ht hW => ⟨⟨fun v9 hv9 => by cases hv9; exact (Or.inr (⟨dp, zi, f_mf129, rfl, c130, by omega, by rw [ht]; exact hI.1⟩)), fun x9 hx9 => (by cases hx9)⟩, hI.2.F ht⟩) hI.2.2.2 d_Mo_second_341)
                          · refine lv_aload_n hx hb d_Mo_second_265 rfl (lv_at hl 0 rfl) ?_
                            refine lv_aload_n hx hb d_Mo_second_266 rfl (lv_at hl 0 rfl) ?_
                            refine lv_iload_n hx hb d_Mo_second_267 rfl (lv_at hl 2 rfl) ?_
                            refine lv_iload_n hx hb d_Mo_second_268 rfl (lv_at hl 3 rfl) ?_
                            refine tz_call (A1 := ga (adM a) H.size) (tz_runV (C := "StoryMachineModel") (As := [.int x2, .int x3]) (rest := [.ref (a 0)]) ⟨hx, hb, hml, hown, hts⟩ (c_Mo_has l hfl dC dI cI cJ a H.size th tr dp zi co sh lt ts mf x2 x3 hok (by omega) (by omega) (by omega) (by omega)) (tx_cb (n := 2) hts rfl rfl ⟨Nat.le_of_ble_eq_true rfl, Nat.le_of_ble_eq_true rfl⟩ (tx_code.of (hts _ mw_1337)) (hts _ mw_12) (by decide +kernel) (hts _ mw_1334)) (hts _ mw_1336) (hts _ ms_Mo_has) ⟨tz_blind, sv_recv (q0 := 0) hts in_Mo hK hI kM_0 rfl, fun U hU hW => ⟨rfl, by rw [hU], by rw [hU]; exact hI.1, va_K.moved hW.alike hK, hst _ _ hI.2 U hU hW⟩⟩ rfl rfl hl.1 rfl (lv_room (Nat.le_of_ble_eq_true rfl)) d_Mo_second_269 ⟨Nat.le_of_ble_eq_true rfl, Nat.le_of_ble_eq_true rfl⟩) hI.2 (fun q _ h => ga_sub hAC hA0 hI.2 q h) (ga_sub hAC hA0 hI.2) (fun v t H1 locs1 ht hWt hpost _ _ hS => ?_) (fun x t H1 locs1 ht hWt hpost _ _ hS => (hpost.2 x rfl).elim)
                            rcases hpost.1 _ rfl with ⟨z133, t_tr134, hv, c135, c135_0, c135_1, c135_2, hI1⟩ | ⟨z136, t_tr137, hv, c138, c138_0, c138_1, c138_2, c138_3, c138_4, c138_5, c138_6, hI1⟩ | ⟨z139, hv, c140, c140_0, c140_1, c140_2, c140_3, c140_4, c140_5, c140_6, hI1⟩ | ⟨z141, hv, c142, c142_0, c142_1, c142_2, c142_3, c142_4, c142_5, c142_6, hI1⟩
                            · cases hv
                              have hI : sI (dC, dI) vcl cI cJ (gsM a th t_tr134 dp zi co sh lt ts mf) A s.heap H1 locs1 := ⟨by rw [← ht]; exact hI1, hS⟩
                              obtain ⟨-, ⟨o143, o144⟩, -, -, -, -, -, -, -⟩ := id c135
                              clear hpost hI1 hS ht hWt
                              revert hI; generalize H1 = H; generalize locs1 = locs; intro hI
                              refine tz_call (A1 := ga (adM a) H.size) (tz_runV (C := "StoryMachineModel") (As := [.int z133]) (rest := []) ⟨hx, hb, hml, hown, hts⟩ (c_Mo_branch l hfl dC dI cI cJ a H.size th t_tr134 dp zi co sh lt ts mf z133 c135 (by omega) (by omega)) (tx_cb (n := 1) hts rfl rfl ⟨Nat.le_of_ble_eq_true rfl, Nat.le_of_ble_eq_true rfl⟩ (tx_code.of (hts _ mw_1288)) (hts _ mw_12) (by decide +kernel) (hts _ mw_1285)) (hts _ mw_1287) (hts _ ms_Mo_branch) ⟨tz_blind, sv_recv (q0 := 0) hts in_Mo hK hI kM_0 rfl, fun U hU hW => ⟨rfl, by rw [hU], by rw [hU]; exact hI.1, va_K.moved hW.alike hK, hst _ _ hI.2 U hU hW⟩⟩ rfl rfl hl.1 rfl (lv_room (Nat.le_of_ble_eq_true rfl)) d_Mo_second_272 ⟨Nat.le_of_ble_eq_true rfl, Nat.le_of_ble_eq_true rfl⟩) hI.2 (fun q _ h => ga_sub hAC hA0 hI.2 q h) (ga_sub hAC hA0 hI.2) (fun v t H1 locs1 ht hWt hpost _ _ hS => ?_) (fun x t H1 locs1 ht hWt hpost _ _ hS => (hpost.2 x rfl).elim)
                              rcases hpost.1 _ rfl with ⟨t_tr145, t_dp146, t_zi147, hv, c148, c148_0, hI1⟩ | ⟨t_dp149, t_zi150, f_mf151, hv, c152, c152_0, hI1⟩
                              · cases hv
                                have hI : sI (dC, dI) vcl cI cJ (gsM a th t_tr145 t_dp146 t_zi147 co sh lt ts mf) A s.heap H1 locs1 := ⟨by rw [← ht]; exact hI1, hS⟩
                                obtain ⟨-, ⟨o153, o154⟩, ⟨o155, o156⟩, ⟨o157, o158⟩, -, -, -, -, -⟩ := id c148
                                clear hpost hI1 hS ht hWt
                                revert hI; generalize H1 = H; generalize locs1 = locs; intro hI
                                refine lv_goto (tgt := 341) hx hb d_Mo_second_275 (by decide) ?_
                                subst hZ
                                exact tz_ret (W.vret hx hb hr (fun t ht hW => ⟨⟨fun v9 hv9 => by cases hv9; exact (Or.inl ⟨t_tr145, t_dp146, t_zi147, mf, rfl, c148, by omega, by rw [ht]; exact hI.1⟩), fun x9 hx9 => (by cases hx9)⟩, hI.2.F ht⟩) hI.2.2.2 d_Mo_second_341)
                              · omega
                            · cases hv
                              have hI : sI (dC, dI) vcl cI cJ (gsM a th t_tr137 dp zi co sh lt ts mf) A s.heap H1 locs1 := ⟨by rw [← ht]; exact hI1, hS⟩
                              obtain ⟨-, ⟨o159, o160⟩, -, -, -, -, -, -, -⟩ := id c138
                              clear hpost hI1 hS ht hWt
                              revert hI; generalize H1 = H; generalize locs1 = locs; intro hI
                              refine tz_call (A1 := ga (adM a) H.size) (tz_runV (C := "StoryMachineModel") (As := [.int z136]) (rest := []) ⟨hx, hb, hml, hown, hts⟩ (c_Mo_branch l hfl dC dI cI cJ a H.size th t_tr137 dp zi co sh lt ts mf z136 c138 (by omega) (by omega)) (tx_cb (n := 1) hts rfl rfl ⟨Nat.le_of_ble_eq_true rfl, Nat.le_of_ble_eq_true rfl⟩ (tx_code.of (hts _ mw_1288)) (hts _ mw_12) (by decide +kernel) (hts _ mw_1285)) (hts _ mw_1287) (hts _ ms_Mo_branch) ⟨tz_blind, sv_recv (q0 := 0) hts in_Mo hK hI kM_0 rfl, fun U hU hW => ⟨rfl, by rw [hU], by rw [hU]; exact hI.1, va_K.moved hW.alike hK, hst _ _ hI.2 U hU hW⟩⟩ rfl rfl hl.1 rfl (lv_room (Nat.le_of_ble_eq_true rfl)) d_Mo_second_272 ⟨Nat.le_of_ble_eq_true rfl, Nat.le_of_ble_eq_true rfl⟩) hI.2 (fun q _ h => ga_sub hAC hA0 hI.2 q h) (ga_sub hAC hA0 hI.2) (fun v t H1 locs1 ht hWt hpost _ _ hS => ?_) (fun x t H1 locs1 ht hWt hpost _ _ hS => (hpost.2 x rfl).elim)
                              rcases hpost.1 _ rfl with ⟨t_tr161, t_dp162, t_zi163, hv, c164, c164_0, hI1⟩ | ⟨t_dp165, t_zi166, f_mf167, hv, c168, c168_0, hI1⟩
                              · cases hv
                                have hI : sI (dC, dI) vcl cI cJ (gsM a th t_tr161 t_dp162 t_zi163 co sh lt ts mf) A s.heap H1 locs1 := ⟨by rw [← ht]; exact hI1, hS⟩
                                obtain ⟨-, ⟨o169, o170⟩, ⟨o171, o172⟩, ⟨o173, o174⟩, -, -, -, -, -⟩ := id c164
                                clear hpost hI1 hS ht hWt
                                revert hI; generalize H1 = H; generalize locs1 = locs; intro hI
                                refine lv_goto (tgt := 341) hx hb d_Mo_second_275 (by decide) ?_
                                subst hZ
                                exact tz_ret (W.vret hx hb hr (fun t ht hW => ⟨⟨fun v9 hv9 => by cases hv9; exact (Or.inl ⟨t_tr161, t_dp162, t_zi163, mf, rfl, c164, by omega, by rw [ht]; exact hI.1⟩), fun x9 hx9 => (by cases hx9)⟩, hI.2.F ht⟩) hI.2.2.2 d_Mo_second_341)
                              · omega
                            · cases hv
                              have hI : sI (dC, dI) vcl cI cJ (gsM a th tr dp zi co sh lt ts mf) A s.heap H1 locs1 := ⟨by rw [← ht]; exact hI1, hS⟩
                              clear hpost hI1 hS ht hWt
                              revert hI; generalize H1 = H; generalize locs1 = locs; intro hI
                              refine tz_call (A1 := ga (adM a) H.size) (tz_runV (C := "StoryMachineModel") (As := [.int z139]) (rest := []) ⟨hx, hb, hml, hown, hts⟩ (c_Mo_branch l hfl dC dI cI cJ a H.size th tr dp zi co sh lt ts mf z139 c140 (by omega) (by omega)) (tx_cb (n := 1) hts rfl rfl ⟨Nat.le_of_ble_eq_true rfl, Nat.le_of_ble_eq_true rfl⟩ (tx_code.of (hts _ mw_1288)) (hts _ mw_12) (by decide +kernel) (hts _ mw_1285)) (hts _ mw_1287) (hts _ ms_Mo_branch) ⟨tz_blind, sv_recv (q0 := 0) hts in_Mo hK hI kM_0 rfl, fun U hU hW => ⟨rfl, by rw [hU], by rw [hU]; exact hI.1, va_K.moved hW.alike hK, hst _ _ hI.2 U hU hW⟩⟩ rfl rfl hl.1 rfl (lv_room (Nat.le_of_ble_eq_true rfl)) d_Mo_second_272 ⟨Nat.le_of_ble_eq_true rfl, Nat.le_of_ble_eq_true rfl⟩) hI.2 (fun q _ h => ga_sub hAC hA0 hI.2 q h) (ga_sub hAC hA0 hI.2) (fun v t H1 locs1 ht hWt hpost _ _ hS => ?_) (fun x t H1 locs1 ht hWt hpost _ _ hS => (hpost.2 x rfl).elim)
                              rcases hpost.1 _ rfl with ⟨t_tr175, t_dp176, t_zi177, hv, c178, c178_0, hI1⟩ | ⟨t_dp179, t_zi180, f_mf181, hv, c182, c182_0, hI1⟩
                              · cases hv
                                have hI : sI (dC, dI) vcl cI cJ (gsM a th t_tr175 t_dp176 t_zi177 co sh lt ts mf) A s.heap H1 locs1 := ⟨by rw [← ht]; exact hI1, hS⟩
                                obtain ⟨-, ⟨o183, o184⟩, ⟨o185, o186⟩, ⟨o187, o188⟩, -, -, -, -, -⟩ := id c178
                                clear hpost hI1 hS ht hWt
                                revert hI; generalize H1 = H; generalize locs1 = locs; intro hI
                                refine lv_goto (tgt := 341) hx hb d_Mo_second_275 (by decide) ?_
                                subst hZ
                                exact tz_ret (W.vret hx hb hr (fun t ht hW => ⟨⟨fun v9 hv9 => by cases hv9; exact (Or.inl ⟨t_tr175, t_dp176, t_zi177, mf, rfl, c178, by omega, by rw [ht]; exact hI.1⟩), fun x9 hx9 => (by cases hx9)⟩, hI.2.F ht⟩) hI.2.2.2 d_Mo_second_341)
                              · cases hv
                                have hI : sI (dC, dI) vcl cI cJ (gsM a th tr t_dp179 t_zi180 co sh lt ts f_mf181) A s.heap H1 locs1 := ⟨by rw [← ht]; exact hI1, hS⟩
                                obtain ⟨-, -, ⟨o189, o190⟩, ⟨o191, o192⟩, -, -, -, -, -⟩ := id c182
                                clear hpost hI1 hS ht hWt
                                revert hI; generalize H1 = H; generalize locs1 = locs; intro hI
                                refine lv_goto (tgt := 341) hx hb d_Mo_second_275 (by decide) ?_
                                subst hZ
                                exact tz_ret (W.vret hx hb hr (fun t ht hW => ⟨⟨fun v9 hv9 => by cases hv9; exact (Or.inr (⟨t_dp179, t_zi180, f_mf181, rfl, c182, by omega, by rw [ht]; exact hI.1⟩)), fun x9 hx9 => (by cases hx9)⟩, hI.2.F ht⟩) hI.2.2.2 d_Mo_second_341)
                            · cases hv
                              have hI : sI (dC, dI) vcl cI cJ (gsM a th tr dp zi co sh lt ts mf) A s.heap H1 locs1 := ⟨by rw [← ht]; exact hI1, hS⟩
                              clear hpost hI1 hS ht hWt
                              revert hI; generalize H1 = H; generalize locs1 = locs; intro hI
                              refine tz_call (A1 := ga (adM a) H.size) (tz_runV (C := "StoryMachineModel") (As := [.int z141]) (rest := []) ⟨hx, hb, hml, hown, hts⟩ (c_Mo_branch l hfl dC dI cI cJ a H.size th tr dp zi co sh lt ts mf z141 c142 (by omega) (by omega)) (tx_cb (n := 1) hts rfl rfl ⟨Nat.le_of_ble_eq_true rfl, Nat.le_of_ble_eq_true rfl⟩ (tx_code.of (hts _ mw_1288)) (hts _ mw_12) (by decide +kernel) (hts _ mw_1285)) (hts _ mw_1287) (hts _ ms_Mo_branch) ⟨tz_blind, sv_recv (q0 := 0) hts in_Mo hK hI kM_0 rfl, fun U hU hW => ⟨rfl, by rw [hU], by rw [hU]; exact hI.1, va_K.moved hW.alike hK, hst _ _ hI.2 U hU hW⟩⟩ rfl rfl hl.1 rfl (lv_room (Nat.le_of_ble_eq_true rfl)) d_Mo_second_272 ⟨Nat.le_of_ble_eq_true rfl, Nat.le_of_ble_eq_true rfl⟩) hI.2 (fun q _ h => ga_sub hAC hA0 hI.2 q h) (ga_sub hAC hA0 hI.2) (fun v t H1 locs1 ht hWt hpost _ _ hS => ?_) (fun x t H1 locs1 ht hWt hpost _ _ hS => (hpost.2 x rfl).elim)
                              rcases hpost.1 _ rfl with ⟨t_tr193, t_dp194, t_zi195, hv, c196, c196_0, hI1⟩ | ⟨t_dp197, t_zi198, f_mf199, hv, c200, c200_0, hI1⟩
                              · cases hv
                                have hI : sI (dC, dI) vcl cI cJ (gsM a th t_tr193 t_dp194 t_zi195 co sh lt ts mf) A s.heap H1 locs1 := ⟨by rw [← ht]; exact hI1, hS⟩
                                obtain ⟨-, ⟨o201, o202⟩, ⟨o203, o204⟩, ⟨o205, o206⟩, -, -, -, -, -⟩ := id c196
                                clear hpost hI1 hS ht hWt
                                revert hI; generalize H1 = H; generalize locs1 = locs; intro hI
                                refine lv_goto (tgt := 341) hx hb d_Mo_second_275 (by decide) ?_
                                subst hZ
                                exact tz_ret (W.vret hx hb hr (fun t ht hW => ⟨⟨fun v9 hv9 => by cases hv9; exact (Or.inl ⟨t_tr193, t_dp194, t_zi195, mf, rfl, c196, by omega, by rw [ht]; exact hI.1⟩), fun x9 hx9 => (by cases hx9)⟩, hI.2.F ht⟩) hI.2.2.2 d_Mo_second_341)
                              · cases hv
                                have hI : sI (dC, dI) vcl cI cJ (gsM a th tr t_dp197 t_zi198 co sh lt ts f_mf199) A s.heap H1 locs1 := ⟨by rw [← ht]; exact hI1, hS⟩
                                obtain ⟨-, -, ⟨o207, o208⟩, ⟨o209, o210⟩, -, -, -, -, -⟩ := id c200
                                clear hpost hI1 hS ht hWt
                                revert hI; generalize H1 = H; generalize locs1 = locs; intro hI
                                refine lv_goto (tgt := 341) hx hb d_Mo_second_275 (by decide) ?_
                                subst hZ
                                exact tz_ret (W.vret hx hb hr (fun t ht hW => ⟨⟨fun v9 hv9 => by cases hv9; exact (Or.inr (⟨t_dp197, t_zi198, f_mf199, rfl, c200, by omega, by rw [ht]; exact hI.1⟩)), fun x9 hx9 => (by cases hx9)⟩, hI.2.F ht⟩) hI.2.2.2 d_Mo_second_341)
                        · refine lv_aload_n hx hb d_Mo_second_249 rfl (lv_at hl 0 rfl) ?_
                          refine lv_iload_n hx hb d_Mo_second_250 rfl (lv_at hl 2 rfl) ?_
                          refine lv_iload_n hx hb d_Mo_second_251 rfl (lv_at hl 3 rfl) ?_
                          refine sn_iandT hx hb d_Mo_second_252 (fun z211 hz211a hz211b => ?_)
                          refine tz_call (A1 := ga (adM a) H.size) (tz_runV (C := "StoryMachineModel") (As := [.int z211]) (rest := []) ⟨hx, hb, hml, hown, hts⟩ (c_Mo_give l hfl dC dI cI cJ a H.size th tr dp zi co sh lt ts mf z211 hok) (tx_cb (n := 1) hts rfl rfl ⟨Nat.le_of_ble_eq_true rfl, Nat.le_of_ble_eq_true rfl⟩ (tx_code.of (hts _ mw_1333)) (hts _ mw_12) (by decide +kernel) (hts _ mw_1330)) (hts _ mw_1332) (hts _ ms_Mo_give) ⟨tz_blind, sv_recv (q0 := 0) hts in_Mo hK hI kM_0 rfl, fun U hU hW => ⟨rfl, by rw [hU], by rw [hU]; exact hI.1, va_K.moved hW.alike hK, hst _ _ hI.2 U hU hW⟩⟩ rfl rfl hl.1 rfl (lv_room (Nat.le_of_ble_eq_true rfl)) d_Mo_second_253 ⟨Nat.le_of_ble_eq_true rfl, Nat.le_of_ble_eq_true rfl⟩) hI.2 (fun q _ h => ga_sub hAC hA0 hI.2 q h) (ga_sub hAC hA0 hI.2) (fun v t H1 locs1 ht hWt hpost _ _ hS => ?_) (fun x t H1 locs1 ht hWt hpost _ _ hS => (hpost.2 x rfl).elim)
                          rcases hpost.1 _ rfl with ⟨t_tr212, hv, c213, c213_0, hI1⟩ | ⟨t_zi214, f_mf215, hv, c216, c216_0, hI1⟩
                          · cases hv
                            have hI : sI (dC, dI) vcl cI cJ (gsM a th t_tr212 dp zi co sh lt ts mf) A s.heap H1 locs1 := ⟨by rw [← ht]; exact hI1, hS⟩
                            obtain ⟨-, ⟨o217, o218⟩, -, -, -, -, -, -, -⟩ := id c213
                            clear hpost hI1 hS ht hWt
                            revert hI; generalize H1 = H; generalize locs1 = locs; intro hI
                            refine lv_goto (tgt := 341) hx hb d_Mo_second_256 (by decide) ?_
                            subst hZ
                            exact tz_ret (W.vret hx hb hr (fun t ht hW => ⟨⟨fun v9 hv9 => by cases hv9; exact (Or.inl ⟨t_tr212, dp, zi, mf, rfl, c213, by omega, by rw [ht]; exact hI.1⟩), fun x9 hx9 => (by cases hx9)⟩, hI.2.F ht⟩) hI.2.2.2 d_Mo_second_341)
                          · cases hv
                            have hI : sI (dC, dI) vcl cI cJ (gsM a th tr dp t_zi214 co sh lt ts f_mf215) A s.heap H1 locs1 := ⟨by rw [← ht]; exact hI1, hS⟩
                            obtain ⟨-, -, -, ⟨o219, o220⟩, -, -, -, -, -⟩ := id c216
                            clear hpost hI1 hS ht hWt
                            revert hI; generalize H1 = H; generalize locs1 = locs; intro hI
                            refine lv_goto (tgt := 341) hx hb d_Mo_second_256 (by decide) ?_
                            subst hZ
                            exact tz_ret (W.vret hx hb hr (fun t ht hW => ⟨⟨fun v9 hv9 => by cases hv9; exact (Or.inr (⟨dp, t_zi214, f_mf215, rfl, c216, by omega, by rw [ht]; exact hI.1⟩)), fun x9 hx9 => (by cases hx9)⟩, hI.2.F ht⟩) hI.2.2.2 d_Mo_second_341)
                      · refine lv_aload_n hx hb d_Mo_second_233 rfl (lv_at hl 0 rfl) ?_
                        refine lv_iload_n hx hb d_Mo_second_234 rfl (lv_at hl 2 rfl) ?_
                        refine lv_iload_n hx hb d_Mo_second_235 rfl (lv_at hl 3 rfl) ?_
                        refine sn_iorT hx hb d_Mo_second_236 (fun z221 hz221a hz221b => ?_)
                        refine tz_call (A1 := ga (adM a) H.size) (tz_runV (C := "StoryMachineModel") (As := [.int z221]) (rest := []) ⟨hx, hb, hml, hown, hts⟩ (c_Mo_give l hfl dC dI cI cJ a H.size th tr dp zi co sh lt ts mf z221 hok) (tx_cb (n := 1) hts rfl rfl ⟨Nat.le_of_ble_eq_true rfl, Nat.le_of_ble_eq_true rfl⟩ (tx_code.of (hts _ mw_1333)) (hts _ mw_12) (by decide +kernel) (hts _ mw_1330)) (hts _ mw_1332) (hts _ ms_Mo_give) ⟨tz_blind, sv_recv (q0 := 0) hts in_Mo hK hI kM_0 rfl, fun U hU hW => ⟨rfl, by rw [hU], by rw [hU]; exact hI.1, va_K.moved hW.alike hK, hst _ _ hI.2 U hU hW⟩⟩ rfl rfl hl.1 rfl (lv_room (Nat.le_of_ble_eq_true rfl)) d_Mo_second_237 ⟨Nat.le_of_ble_eq_true rfl, Nat.le_of_ble_eq_true rfl⟩) hI.2 (fun q _ h => ga_sub hAC hA0 hI.2 q h) (ga_sub hAC hA0 hI.2) (fun v t H1 locs1 ht hWt hpost _ _ hS => ?_) (fun x t H1 locs1 ht hWt hpost _ _ hS => (hpost.2 x rfl).elim)
                        rcases hpost.1 _ rfl with ⟨t_tr222, hv, c223, c223_0, hI1⟩ | ⟨t_zi224, f_mf225, hv, c226, c226_0, hI1⟩
                        · cases hv
                          have hI : sI (dC, dI) vcl cI cJ (gsM a th t_tr222 dp zi co sh lt ts mf) A s.heap H1 locs1 := ⟨by rw [← ht]; exact hI1, hS⟩
                          obtain ⟨-, ⟨o227, o228⟩, -, -, -, -, -, -, -⟩ := id c223
                          clear hpost hI1 hS ht hWt
                          revert hI; generalize H1 = H; generalize locs1 = locs; intro hI
                          refine lv_goto (tgt := 341) hx hb d_Mo_second_240 (by decide) ?_
                          subst hZ
                          exact tz_ret (W.vret hx hb hr (fun t ht hW => ⟨⟨fun v9 hv9 => by cases hv9; exact (Or.inl ⟨t_tr222, dp, zi, mf, rfl, c223, by omega, by rw [ht]; exact hI.1⟩), fun x9 hx9 => (by cases hx9)⟩, hI.2.F ht⟩) hI.2.2.2 d_Mo_second_341)
                        · cases hv
                          have hI : sI (dC, dI) vcl cI cJ (gsM a th tr dp t_zi224 co sh lt ts f_mf225) A s.heap H1 locs1 := ⟨by rw [← ht]; exact hI1, hS⟩
                          obtain ⟨-, -, -, ⟨o229, o230⟩, -, -, -, -, -⟩ := id c226
                          clear hpost hI1 hS ht hWt
                          revert hI; generalize H1 = H; generalize locs1 = locs; intro hI
                          refine lv_goto (tgt := 341) hx hb d_Mo_second_240 (by decide) ?_
                          subst hZ
                          exact tz_ret (W.vret hx hb hr (fun t ht hW => ⟨⟨fun v9 hv9 => by cases hv9; exact (Or.inr (⟨dp, t_zi224, f_mf225, rfl, c226, by omega, by rw [ht]; exact hI.1⟩)), fun x9 hx9 => (by cases hx9)⟩, hI.2.F ht⟩) hI.2.2.2 d_Mo_second_341)
                    · refine lv_aload_n hx hb d_Mo_second_208 rfl (lv_at hl 0 rfl) ?_
                      refine lv_iload_n hx hb d_Mo_second_209 rfl (lv_at hl 2 rfl) ?_
                      refine lv_iload_n hx hb d_Mo_second_210 rfl (lv_at hl 3 rfl) ?_
                      refine sn_iandT hx hb d_Mo_second_211 (fun z231 hz231a hz231b => ?_)
                      refine lv_iload_n hx hb d_Mo_second_212 rfl (lv_at hl 3 rfl) ?_
                      refine sn_icmp_ne (tgt := 220) hx hb d_Mo_second_213 (by decide) (fun b232 => ?_) (fun b232 => ?_)
                      · refine sn_iconst hx hb d_Mo_second_220 (by decide) (fun z233 hz233 => ?_)
                        refine tz_call (A1 := ga (adM a) H.size) (tz_runV (C := "StoryMachineModel") (As := [.int z233]) (rest := []) ⟨hx, hb, hml, hown, hts⟩ (c_Mo_branch l hfl dC dI cI cJ a H.size th tr dp zi co sh lt ts mf z233 hok (by omega) (by omega)) (tx_cb (n := 1) hts rfl rfl ⟨Nat.le_of_ble_eq_true rfl, Nat.le_of_ble_eq_true rfl⟩ (tx_code.of (hts _ mw_1288)) (hts _ mw_12) (by decide +kernel) (hts _ mw_1285)) (hts _ mw_1287) (hts _ ms_Mo_branch) ⟨tz_blind, sv_recv (q0 := 0) hts in_Mo hK hI kM_0 rfl, fun U hU hW => ⟨rfl, by rw [hU], by rw [hU]; exact hI.1, va_K.moved hW.alike hK, hst _ _ hI.2 U hU hW⟩⟩ rfl rfl hl.1 rfl (lv_room (Nat.le_of_ble_eq_true rfl)) d_Mo_second_221 ⟨Nat.le_of_ble_eq_true rfl, Nat.le_of_ble_eq_true rfl⟩) hI.2 (fun q _ h => ga_sub hAC hA0 hI.2 q h) (ga_sub hAC hA0 hI.2) (fun v t H1 locs1 ht hWt hpost _ _ hS => ?_) (fun x t H1 locs1 ht hWt hpost _ _ hS => (hpost.2 x rfl).elim)
                        rcases hpost.1 _ rfl with ⟨t_tr234, t_dp235, t_zi236, hv, c237, c237_0, hI1⟩ | ⟨t_dp238, t_zi239, f_mf240, hv, c241, c241_0, hI1⟩
                        · cases hv
                          have hI : sI (dC, dI) vcl cI cJ (gsM a th t_tr234 t_dp235 t_zi236 co sh lt ts mf) A s.heap H1 locs1 := ⟨by rw [← ht]; exact hI1, hS⟩
                          obtain ⟨-, ⟨o242, o243⟩, ⟨o244, o245⟩, ⟨o246, o247⟩, -, -, -, -, -⟩ := id c237
                          clear hpost hI1 hS ht hWt
                          revert hI; generalize H1 = H; generalize locs1 = locs; intro hI
                          refine lv_goto (tgt := 341) hx hb d_Mo_second_224 (by decide) ?_
                          subst hZ
                          exact tz_ret (W.vret hx hb hr (fun t ht hW => ⟨⟨fun v9 hv9 => by cases hv9; exact (Or.inl ⟨t_tr234, t_dp235, t_zi236, mf, rfl, c237, by omega, by rw [ht]; exact hI.1⟩), fun x9 hx9 => (by cases hx9)⟩, hI.2.F ht⟩) hI.2.2.2 d_Mo_second_341)
                        · cases hv
                          have hI : sI (dC, dI) vcl cI cJ (gsM a th tr t_dp238 t_zi239 co sh lt ts f_mf240) A s.heap H1 locs1 := ⟨by rw [← ht]; exact hI1, hS⟩
                          obtain ⟨-, -, ⟨o248, o249⟩, ⟨o250, o251⟩, -, -, -, -, -⟩ := id c241
                          clear hpost hI1 hS ht hWt
                          revert hI; generalize H1 = H; generalize locs1 = locs; intro hI
                          refine lv_goto (tgt := 341) hx hb d_Mo_second_224 (by decide) ?_
                          subst hZ
                          exact tz_ret (W.vret hx hb hr (fun t ht hW => ⟨⟨fun v9 hv9 => by cases hv9; exact (Or.inr (⟨t_dp238, t_zi239, f_mf240, rfl, c241, by omega, by rw [ht]; exact hI.1⟩)), fun x9 hx9 => (by cases hx9)⟩, hI.2.F ht⟩) hI.2.2.2 d_Mo_second_341)
                      · refine sn_iconst hx hb d_Mo_second_216 (by decide) (fun z252 hz252 => ?_)
                        refine lv_goto (tgt := 221) hx hb d_Mo_second_217 (by decide) ?_
                        refine tz_call (A1 := ga (adM a) H.size) (tz_runV (C := "StoryMachineModel") (As := [.int z252]) (rest := []) ⟨hx, hb, hml, hown, hts⟩ (c_Mo_branch l hfl dC dI cI cJ a H.size th tr dp zi co sh lt ts mf z252 hok (by omega) (by omega)) (tx_cb (n := 1) hts rfl rfl ⟨Nat.le_of_ble_eq_true rfl, Nat.le_of_ble_eq_true rfl⟩ (tx_code.of (hts _ mw_1288)) (hts _ mw_12) (by decide +kernel) (hts _ mw_1285)) (hts _ mw_1287) (hts _ ms_Mo_branch) ⟨tz_blind, sv_recv (q0 := 0) hts in_Mo hK hI kM_0 rfl, fun U hU hW => ⟨rfl, by rw [hU], by rw [hU]; exact hI.1, va_K.moved hW.alike hK, hst _ _ hI.2 U hU hW⟩⟩ rfl rfl hl.1 rfl (lv_room (Nat.le_of_ble_eq_true rfl)) d_Mo_second_221 ⟨Nat.le_of_ble_eq_true rfl, Nat.le_of_ble_eq_true rfl⟩) hI.2 (fun q _ h => ga_sub hAC hA0 hI.2 q h) (ga_sub hAC hA0 hI.2) (fun v t H1 locs1 ht hWt hpost _ _ hS => ?_) (fun x t H1 locs1 ht hWt hpost _ _ hS => (hpost.2 x rfl).elim)
                        rcases hpost.1 _ rfl with ⟨t_tr253, t_dp254, t_zi255, hv, c256, c256_0, hI1⟩ | ⟨t_dp257, t_zi258, f_mf259, hv, c260, c260_0, hI1⟩
                        · cases hv
                          have hI : sI (dC, dI) vcl cI cJ (gsM a th t_tr253 t_dp254 t_zi255 co sh lt ts mf) A s.heap H1 locs1 := ⟨by rw [← ht]; exact hI1, hS⟩
                          obtain ⟨-, ⟨o261, o262⟩, ⟨o263, o264⟩, ⟨o265, o266⟩, -, -, -, -, -⟩ := id c256
                          clear hpost hI1 hS ht hWt
                          revert hI; generalize H1 = H; generalize locs1 = locs; intro hI
                          refine lv_goto (tgt := 341) hx hb d_Mo_second_224 (by decide) ?_
                          subst hZ
                          exact tz_ret (W.vret hx hb hr (fun t ht hW => ⟨⟨fun v9 hv9 => by cases hv9; exact (Or.inl ⟨t_tr253, t_dp254, t_zi255, mf, rfl, c256, by omega, by rw [ht]; exact hI.1⟩), fun x9 hx9 => (by cases hx9)⟩, hI.2.F ht⟩) hI.2.2.2 d_Mo_second_341)
                        · cases hv
                          have hI : sI (dC, dI) vcl cI cJ (gsM a th tr t_dp257 t_zi258 co sh lt ts f_mf259) A s.heap H1 locs1 := ⟨by rw [← ht]; exact hI1, hS⟩
                          obtain ⟨-, -, ⟨o267, o268⟩, ⟨o269, o270⟩, -, -, -, -, -⟩ := id c260
                          clear hpost hI1 hS ht hWt
                          revert hI; generalize H1 = H; generalize locs1 = locs; intro hI
                          refine lv_goto (tgt := 341) hx hb d_Mo_second_224 (by decide) ?_
                          subst hZ
                          exact tz_ret (W.vret hx hb hr (fun t ht hW => ⟨⟨fun v9 hv9 => by cases hv9; exact (Or.inr (⟨t_dp257, t_zi258, f_mf259, rfl, c260, by omega, by rw [ht]; exact hI.1⟩)), fun x9 hx9 => (by cases hx9)⟩, hI.2.F ht⟩) hI.2.2.2 d_Mo_second_341)
                  · refine lv_aload_n hx hb d_Mo_second_180 rfl (lv_at hl 0 rfl) ?_
                    refine lv_aload_n hx hb d_Mo_second_181 rfl (lv_at hl 0 rfl) ?_
                    refine lv_iload_n hx hb d_Mo_second_182 rfl (lv_at hl 2 rfl) ?_
                    refine sn_iconst hx hb d_Mo_second_183 (by decide) (fun z271 hz271 => ?_)
                    refine tz_call (A1 := ga (adM a) H.size) (tz_runV (C := "StoryMachineModel") (As := [.int x2, .int z271]) (rest := [.ref (a 0)]) ⟨hx, hb, hml, hown, hts⟩ (c_Mo_of l hfl dC dI cI cJ a H.size th tr dp zi co sh lt ts mf x2 z271 hok (by omega) (by omega)) (tx_cb (n := 2) hts rfl rfl ⟨Nat.le_of_ble_eq_true rfl, Nat.le_of_ble_eq_true rfl⟩ (tx_code.of (hts _ mw_1325)) (hts _ mw_12) (by decide +kernel) (hts _ mw_1322)) (hts _ mw_1324) (hts _ ms_Mo_of) ⟨tz_blind, sv_recv (q0 := 0) hts in_Mo hK hI kM_0 rfl, fun U hU hW => ⟨rfl, by rw [hU], by rw [hU]; exact hI.1, va_K.moved hW.alike hK, hst _ _ hI.2 U hU hW⟩⟩ rfl rfl hl.1 rfl (lv_room (Nat.le_of_ble_eq_true rfl)) d_Mo_second_184 ⟨Nat.le_of_ble_eq_true rfl, Nat.le_of_ble_eq_true rfl⟩) hI.2 (fun q _ h => ga_sub hAC hA0 hI.2 q h) (ga_sub hAC hA0 hI.2) (fun v t H1 locs1 ht hWt hpost _ _ hS => ?_) (fun x t H1 locs1 ht hWt hpost _ _ hS => (hpost.2 x rfl).elim)
                    rcases hpost.1 _ rfl with ⟨z272, t_tr273, hv, c274, c274_0, c274_1, c274_2, hI1⟩ | ⟨z275, hv, c276, c276_0, c276_1, c276_2, c276_3, c276_4, hI1⟩
                    · cases hv
                      have hI : sI (dC, dI) vcl cI cJ (gsM a th t_tr273 dp zi co sh lt ts mf) A s.heap H1 locs1 := ⟨by rw [← ht]; exact hI1, hS⟩
                      obtain ⟨-, ⟨o277, o278⟩, -, -, -, -, -, -, -⟩ := id c274
                      clear hpost hI1 hS ht hWt
                      revert hI; generalize H1 = H; generalize locs1 = locs; intro hI
                      refine lv_iload_n hx hb d_Mo_second_187 rfl (lv_at hl 3 rfl) ?_
                      refine sn_icmp_ne (tgt := 195) hx hb d_Mo_second_188 (by decide) (fun b279 => ?_) (fun b279 => ?_)
                      · refine sn_iconst hx hb d_Mo_second_195 (by decide) (fun z280 hz280 => ?_)
                        refine tz_call (A1 := ga (adM a) H.size) (tz_runV (C := "StoryMachineModel") (As := [.int z280]) (rest := []) ⟨hx, hb, hml, hown, hts⟩ (c_Mo_branch l hfl dC dI cI cJ a H.size th t_tr273 dp zi co sh lt ts mf z280 c274 (by omega) (by omega)) (tx_cb (n := 1) hts rfl rfl ⟨Nat.le_of_ble_eq_true rfl, Nat.le_of_ble_eq_true rfl⟩ (tx_code.of (hts _ mw_1288)) (hts _ mw_12) (by decide +kernel) (hts _ mw_1285)) (hts _ mw_1287) (hts _ ms_Mo_branch) ⟨tz_blind, sv_recv (q0 := 0) hts in_Mo hK hI kM_0 rfl, fun U hU hW => ⟨rfl, by rw [hU], by rw [hU]; exact hI.1, va_K.moved hW.alike hK, hst _ _ hI.2 U hU hW⟩⟩ rfl rfl hl.1 rfl (lv_room (Nat.le_of_ble_eq_true rfl)) d_Mo_second_196 ⟨Nat.le_of_ble_eq_true rfl, Nat.le_of_ble_eq_true rfl⟩) hI.2 (fun q _ h => ga_sub hAC hA0 hI.2 q h) (ga_sub hAC hA0 hI.2) (fun v t H1 locs1 ht hWt hpost _ _ hS => ?_) (fun x t H1 locs1 ht hWt hpost _ _ hS => (hpost.2 x rfl).elim)
                        rcases hpost.1 _ rfl with ⟨t_tr281, t_dp282, t_zi283, hv, c284, c284_0, hI1⟩ | ⟨t_dp285, t_zi286, f_mf287, hv, c288, c288_0, hI1⟩
                        · cases hv
                          have hI : sI (dC, dI) vcl cI cJ (gsM a th t_tr281 t_dp282 t_zi283 co sh lt ts mf) A s.heap H1 locs1 := ⟨by rw [← ht]; exact hI1, hS⟩
                          obtain ⟨-, ⟨o289, o290⟩, ⟨o291, o292⟩, ⟨o293, o294⟩, -, -, -, -, -⟩ := id c284
                          clear hpost hI1 hS ht hWt
                          revert hI; generalize H1 = H; generalize locs1 = locs; intro hI
                          refine lv_goto (tgt := 341) hx hb d_Mo_second_199 (by decide) ?_
                          subst hZ
                          exact tz_ret (W.vret hx hb hr (fun t ht hW => ⟨⟨fun v9 hv9 => by cases hv9; exact (Or.inl ⟨t_tr281, t_dp282, t_zi283, mf, rfl, c284, by omega, by rw [ht]; exact hI.1⟩), fun x9 hx9 => (by cases hx9)⟩, hI.2.F ht⟩) hI.2.2.2 d_Mo_second_341)
                        · omega
                      · refine sn_iconst hx hb d_Mo_second_191 (by decide) (fun z295 hz295 => ?_)
                        refine lv_goto (tgt := 196) hx hb d_Mo_second_192 (by decide) ?_
                        refine tz_call (A1 := ga (adM a) H.size) (tz_runV (C := "StoryMachineModel") (As := [.int z295]) (rest := []) ⟨hx, hb, hml, hown, hts⟩ (c_Mo_branch l hfl dC dI cI cJ a H.size th t_tr273 dp zi co sh lt ts mf z295 c274 (by omega) (by omega)) (tx_cb (n := 1) hts rfl rfl ⟨Nat.le_of_ble_eq_true rfl, Nat.le_of_ble_eq_true rfl⟩ (tx_code.of (hts _ mw_1288)) (hts _ mw_12) (by decide +kernel) (hts _ mw_1285)) (hts _ mw_1287) (hts _ ms_Mo_branch) ⟨tz_blind, sv_recv (q0 := 0) hts in_Mo hK hI kM_0 rfl, fun U hU hW => ⟨rfl, by rw [hU], by rw [hU]; exact hI.1, va_K.moved hW.alike hK, hst _ _ hI.2 U hU hW⟩⟩ rfl rfl hl.1 rfl (lv_room (Nat.le_of_ble_eq_true rfl)) d_Mo_second_196 ⟨Nat.le_of_ble_eq_true rfl, Nat.le_of_ble_eq_true rfl⟩) hI.2 (fun q _ h => ga_sub hAC hA0 hI.2 q h) (ga_sub hAC hA0 hI.2) (fun v t H1 locs1 ht hWt hpost _ _ hS => ?_) (fun x t H1 locs1 ht hWt hpost _ _ hS => (hpost.2 x rfl).elim)
                        rcases hpost.1 _ rfl with ⟨t_tr296, t_dp297, t_zi298, hv, c299, c299_0, hI1⟩ | ⟨t_dp300, t_zi301, f_mf302, hv, c303, c303_0, hI1⟩
                        · cases hv
                          have hI : sI (dC, dI) vcl cI cJ (gsM a th t_tr296 t_dp297 t_zi298 co sh lt ts mf) A s.heap H1 locs1 := ⟨by rw [← ht]; exact hI1, hS⟩
                          obtain ⟨-, ⟨o304, o305⟩, ⟨o306, o307⟩, ⟨o308, o309⟩, -, -, -, -, -⟩ := id c299
                          clear hpost hI1 hS ht hWt
                          revert hI; generalize H1 = H; generalize locs1 = locs; intro hI
                          refine lv_goto (tgt := 341) hx hb d_Mo_second_199 (by decide) ?_
                          subst hZ
                          exact tz_ret (W.vret hx hb hr (fun t ht hW => ⟨⟨fun v9 hv9 => by cases hv9; exact (Or.inl ⟨t_tr296, t_dp297, t_zi298, mf, rfl, c299, by omega, by rw [ht]; exact hI.1⟩), fun x9 hx9 => (by cases hx9)⟩, hI.2.F ht⟩) hI.2.2.2 d_Mo_second_341)
                        · omega
                    · cases hv
                      have hI : sI (dC, dI) vcl cI cJ (gsM a th tr dp zi co sh lt ts mf) A s.heap H1 locs1 := ⟨by rw [← ht]; exact hI1, hS⟩
                      clear hpost hI1 hS ht hWt
                      revert hI; generalize H1 = H; generalize locs1 = locs; intro hI
                      refine lv_iload_n hx hb d_Mo_second_187 rfl (lv_at hl 3 rfl) ?_
                      refine sn_icmp_ne (tgt := 195) hx hb d_Mo_second_188 (by decide) (fun b310 => ?_) (fun b310 => ?_)
                      · refine sn_iconst hx hb d_Mo_second_195 (by decide) (fun z311 hz311 => ?_)
                        refine tz_call (A1 := ga (adM a) H.size) (tz_runV (C := "StoryMachineModel") (As := [.int z311]) (rest := []) ⟨hx, hb, hml, hown, hts⟩ (c_Mo_branch l hfl dC dI cI cJ a H.size th tr dp zi co sh lt ts mf z311 c276 (by omega) (by omega)) (tx_cb (n := 1) hts rfl rfl ⟨Nat.le_of_ble_eq_true rfl, Nat.le_of_ble_eq_true rfl⟩ (tx_code.of (hts _ mw_1288)) (hts _ mw_12) (by decide +kernel) (hts _ mw_1285)) (hts _ mw_1287) (hts _ ms_Mo_branch) ⟨tz_blind, sv_recv (q0 := 0) hts in_Mo hK hI kM_0 rfl, fun U hU hW => ⟨rfl, by rw [hU], by rw [hU]; exact hI.1, va_K.moved hW.alike hK, hst _ _ hI.2 U hU hW⟩⟩ rfl rfl hl.1 rfl (lv_room (Nat.le_of_ble_eq_true rfl)) d_Mo_second_196 ⟨Nat.le_of_ble_eq_true rfl, Nat.le_of_ble_eq_true rfl⟩) hI.2 (fun q _ h => ga_sub hAC hA0 hI.2 q h) (ga_sub hAC hA0 hI.2) (fun v t H1 locs1 ht hWt hpost _ _ hS => ?_) (fun x t H1 locs1 ht hWt hpost _ _ hS => (hpost.2 x rfl).elim)
                        rcases hpost.1 _ rfl with ⟨t_tr312, t_dp313, t_zi314, hv, c315, c315_0, hI1⟩ | ⟨t_dp316, t_zi317, f_mf318, hv, c319, c319_0, hI1⟩
                        · cases hv
                          have hI : sI (dC, dI) vcl cI cJ (gsM a th t_tr312 t_dp313 t_zi314 co sh lt ts mf) A s.heap H1 locs1 := ⟨by rw [← ht]; exact hI1, hS⟩
                          obtain ⟨-, ⟨o320, o321⟩, ⟨o322, o323⟩, ⟨o324, o325⟩, -, -, -, -, -⟩ := id c315
                          clear hpost hI1 hS ht hWt
                          revert hI; generalize H1 = H; generalize locs1 = locs; intro hI
                          refine lv_goto (tgt := 341) hx hb d_Mo_second_199 (by decide) ?_
                          subst hZ
                          exact tz_ret (W.vret hx hb hr (fun t ht hW => ⟨⟨fun v9 hv9 => by cases hv9; exact (Or.inl ⟨t_tr312, t_dp313, t_zi314, mf, rfl, c315, by omega, by rw [ht]; exact hI.1⟩), fun x9 hx9 => (by cases hx9)⟩, hI.2.F ht⟩) hI.2.2.2 d_Mo_second_341)
                        · cases hv
                          have hI : sI (dC, dI) vcl cI cJ (gsM a th tr t_dp316 t_zi317 co sh lt ts f_mf318) A s.heap H1 locs1 := ⟨by rw [← ht]; exact hI1, hS⟩
                          obtain ⟨-, -, ⟨o326, o327⟩, ⟨o328, o329⟩, -, -, -, -, -⟩ := id c319
                          clear hpost hI1 hS ht hWt
                          revert hI; generalize H1 = H; generalize locs1 = locs; intro hI
                          refine lv_goto (tgt := 341) hx hb d_Mo_second_199 (by decide) ?_
                          subst hZ
                          exact tz_ret (W.vret hx hb hr (fun t ht hW => ⟨⟨fun v9 hv9 => by cases hv9; exact (Or.inr (⟨t_dp316, t_zi317, f_mf318, rfl, c319, by omega, by rw [ht]; exact hI.1⟩)), fun x9 hx9 => (by cases hx9)⟩, hI.2.F ht⟩) hI.2.2.2 d_Mo_second_341)
                      · refine sn_iconst hx hb d_Mo_second_191 (by decide) (fun z330 hz330 => ?_)
                        refine lv_goto (tgt := 196) hx hb d_Mo_second_192 (by decide) ?_
                        refine tz_call (A1 := ga (adM a) H.size) (tz_runV (C := "StoryMachineModel") (As := [.int z330]) (rest := []) ⟨hx, hb, hml, hown, hts⟩ (c_Mo_branch l hfl dC dI cI cJ a H.size th tr dp zi co sh lt ts mf z330 c276 (by omega) (by omega)) (tx_cb (n := 1) hts rfl rfl ⟨Nat.le_of_ble_eq_true rfl, Nat.le_of_ble_eq_true rfl⟩ (tx_code.of (hts _ mw_1288)) (hts _ mw_12) (by decide +kernel) (hts _ mw_1285)) (hts _ mw_1287) (hts _ ms_Mo_branch) ⟨tz_blind, sv_recv (q0 := 0) hts in_Mo hK hI kM_0 rfl, fun U hU hW => ⟨rfl, by rw [hU], by rw [hU]; exact hI.1, va_K.moved hW.alike hK, hst _ _ hI.2 U hU hW⟩⟩ rfl rfl hl.1 rfl (lv_room (Nat.le_of_ble_eq_true rfl)) d_Mo_second_196 ⟨Nat.le_of_ble_eq_true rfl, Nat.le_of_ble_eq_true rfl⟩) hI.2 (fun q _ h => ga_sub hAC hA0 hI.2 q h) (ga_sub hAC hA0 hI.2) (fun v t H1 locs1 ht hWt hpost _ _ hS => ?_) (fun x t H1 locs1 ht hWt hpost _ _ hS => (hpost.2 x rfl).elim)
                        rcases hpost.1 _ rfl with ⟨t_tr331, t_dp332, t_zi333, hv, c334, c334_0, hI1⟩ | ⟨t_dp335, t_zi336, f_mf337, hv, c338, c338_0, hI1⟩
                        · cases hv
                          have hI : sI (dC, dI) vcl cI cJ (gsM a th t_tr331 t_dp332 t_zi333 co sh lt ts mf) A s.heap H1 locs1 := ⟨by rw [← ht]; exact hI1, hS⟩
                          obtain ⟨-, ⟨o339, o340⟩, ⟨o341, o342⟩, ⟨o343, o344⟩, -, -, -, -, -⟩ := id c334
                          clear hpost hI1 hS ht hWt
                          revert hI; generalize H1 = H; generalize locs1 = locs; intro hI
                          refine lv_goto (tgt := 341) hx hb d_Mo_second_199 (by decide) ?_
                          subst hZ
                          exact tz_ret (W.vret hx hb hr (fun t ht hW => ⟨⟨fun v9 hv9 => by cases hv9; exact (Or.inl ⟨t_tr331, t_dp332, t_zi333, mf, rfl, c334, by omega, by rw [ht]; exact hI.1⟩), fun x9 hx9 => (by cases hx9)⟩, hI.2.F ht⟩) hI.2.2.2 d_Mo_second_341)
                        · cases hv
                          have hI : sI (dC, dI) vcl cI cJ (gsM a th tr t_dp335 t_zi336 co sh lt ts f_mf337) A s.heap H1 locs1 := ⟨by rw [← ht]; exact hI1, hS⟩
                          obtain ⟨-, -, ⟨o345, o346⟩, ⟨o347, o348⟩, -, -, -, -, -⟩ := id c338
                          clear hpost hI1 hS ht hWt
                          revert hI; generalize H1 = H; generalize locs1 = locs; intro hI
                          refine lv_goto (tgt := 341) hx hb d_Mo_second_199 (by decide) ?_
                          subst hZ
                          exact tz_ret (W.vret hx hb hr (fun t ht hW => ⟨⟨fun v9 hv9 => by cases hv9; exact (Or.inr (⟨t_dp335, t_zi336, f_mf337, rfl, c338, by omega, by rw [ht]; exact hI.1⟩)), fun x9 hx9 => (by cases hx9)⟩, hI.2.F ht⟩) hI.2.2.2 d_Mo_second_341)
                · refine lv_aload_n hx hb d_Mo_second_149 rfl (lv_at hl 0 rfl) ?_
                  refine lv_aload_n hx hb d_Mo_second_150 rfl (lv_at hl 0 rfl) ?_
                  refine lv_iload_n hx hb d_Mo_second_151 rfl (lv_at hl 2 rfl) ?_
                  refine sn_iconst hx hb d_Mo_second_152 (by decide) (fun z349 hz349 => ?_)
                  refine tz_call (A1 := ga (adM a) H.size) (tz_runV (C := "StoryMachineModel") (As := [.int x2, .int z349]) (rest := [.ref (a 0)]) ⟨hx, hb, hml, hown, hts⟩ (c_Mo_change l hfl dC dI cI cJ a H.size th tr dp zi co sh lt ts mf x2 z349 hok (by omega) (by omega) (by omega) (by omega)) (tx_cb (n := 2) hts rfl rfl ⟨Nat.le_of_ble_eq_true rfl, Nat.le_of_ble_eq_true rfl⟩ (tx_code.of (hts _ mw_1321)) (hts _ mw_12) (by decide +kernel) (hts _ mw_1318)) (hts _ mw_1320) (hts _ ms_Mo_change) ⟨tz_blind, sv_recv (q0 := 0) hts in_Mo hK hI kM_0 rfl, fun U hU hW => ⟨rfl, by rw [hU], by rw [hU]; exact hI.1, va_K.moved hW.alike hK, hst _ _ hI.2 U hU hW⟩⟩ rfl rfl hl.1 rfl (lv_room (Nat.le_of_ble_eq_true rfl)) d_Mo_second_153 ⟨Nat.le_of_ble_eq_true rfl, Nat.le_of_ble_eq_true rfl⟩) hI.2 (fun q _ h => ga_sub hAC hA0 hI.2 q h) (ga_sub hAC hA0 hI.2) (fun v t H1 locs1 ht hWt hpost _ _ hS => ?_) (fun x t H1 locs1 ht hWt hpost _ _ hS => (hpost.2 x rfl).elim)
                  rcases hpost.1 _ rfl with ⟨z350, t_tr351, hv, c352, c352_0, c352_1, c352_2, hI1⟩ | ⟨z353, f_mf354, hv, c355, c355_0, c355_1, c355_2, c355_3, hI1⟩
                  · cases hv
                    have hI : sI (dC, dI) vcl cI cJ (gsM a th t_tr351 dp zi co sh lt ts mf) A s.heap H1 locs1 := ⟨by rw [← ht]; exact hI1, hS⟩
                    obtain ⟨-, ⟨o356, o357⟩, -, -, -, -, -, -, -⟩ := id c352
                    clear hpost hI1 hS ht hWt
                    revert hI; generalize H1 = H; generalize locs1 = locs; intro hI
                    refine lv_iload_n hx hb d_Mo_second_156 rfl (lv_at hl 3 rfl) ?_
                    refine tz_call (A1 := ga (adM a) H.size) (tz_runS (As := [.int x3]) (rest := [.int z350, .ref (a 0)]) ⟨hx, hb, hml, hown, hts⟩ (c_Mo_signed l hfl dC dI cI cJ a H.size th t_tr351 dp zi co sh lt ts mf x3 c352) (tx_cb (n := 1) hts rfl rfl ⟨Nat.le_of_ble_eq_true rfl, Nat.le_of_ble_eq_true rfl⟩ (tx_code.of (hts _ mw_1316)) (hts _ mw_12) (by decide +kernel) (hts _ mw_1314)) (hts _ mw_1315) ⟨tz_blind, fun U hU hW => ⟨rfl, by rw [hU], by rw [hU]; exact hI.1, va_K.moved hW.alike hK, hst _ _ hI.2 U hU hW⟩⟩ rfl rfl hl.1 rfl (lv_room (Nat.le_of_ble_eq_true rfl)) d_Mo_second_157 ⟨Nat.le_of_ble_eq_true rfl, Nat.le_of_ble_eq_true rfl⟩) hI.2 (fun q _ h => ga_sub hAC hA0 hI.2 q h) (ga_sub hAC hA0 hI.2) (fun v t H1 locs1 ht hWt hpost _ _ hS => ?_) (fun x t H1 locs1 ht hWt hpost _ _ hS => (hpost.2 x rfl).elim)
                    rcases hpost.1 _ rfl with ⟨z358, hv, c359, c359_0, c359_1, c359_2, hI1⟩
                    cases hv
                    have hI : sI (dC, dI) vcl cI cJ (gsM a th t_tr351 dp zi co sh lt ts mf) A s.heap H1 locs1 := ⟨by rw [← ht]; exact hI1, hS⟩
                    clear hpost hI1 hS ht hWt
                    revert hI; generalize H1 = H; generalize locs1 = locs; intro hI
                    refine sn_icmp_le (tgt := 167) hx hb d_Mo_second_160 (by decide) (fun b360 => ?_) (fun b360 => ?_)
                    · refine sn_iconst hx hb d_Mo_second_167 (by decide) (fun z361 hz361 => ?_)
                      refine tz_call (A1 := ga (adM a) H.size) (tz_runV (C := "StoryMachineModel") (As := [.int z361]) (rest := []) ⟨hx, hb, hml, hown, hts⟩ (c_Mo_branch l hfl dC dI cI cJ a H.size th t_tr351 dp zi co sh lt ts mf z361 c359 (by omega) (by omega)) (tx_cb (n := 1) hts rfl rfl ⟨Nat.le_of_ble_eq_true rfl, Nat.le_of_ble_eq_true rfl⟩ (tx_code.of (hts _ mw_1288)) (hts _ mw_12) (by decide +kernel) (hts _ mw_1285)) (hts _ mw_1287) (hts _ ms_Mo_branch) ⟨tz_blind, sv_recv (q0 := 0) hts in_Mo hK hI kM_0 rfl, fun U hU hW => ⟨rfl, by rw [hU], by rw [hU]; exact hI.1, va_K.moved hW.alike hK, hst _ _ hI.2 U hU hW⟩⟩ rfl rfl hl.1 rfl (lv_room (Nat.le_of_ble_eq_true rfl)) d_Mo_second_168 ⟨Nat.le_of_ble_eq_true rfl, Nat.le_of_ble_eq_true rfl⟩) hI.2 (fun q _ h => ga_sub hAC hA0 hI.2 q h) (ga_sub hAC hA0 hI.2) (fun v t H1 locs1 ht hWt hpost _ _ hS => ?_) (fun x t H1 locs1 ht hWt hpost _ _ hS => (hpost.2 x rfl).elim)
                      rcases hpost.1 _ rfl with ⟨t_tr362, t_dp363, t_zi364, hv, c365, c365_0, hI1⟩ | ⟨t_dp366, t_zi367, f_mf368, hv, c369, c369_0, hI1⟩
                      · cases hv
                        have hI : sI (dC, dI) vcl cI cJ (gsM a th t_tr362 t_dp363 t_zi364 co sh lt ts mf) A s.heap H1 locs1 := ⟨by rw [← ht]; exact hI1, hS⟩
                        obtain ⟨-, ⟨o370, o371⟩, ⟨o372, o373⟩, ⟨o374, o375⟩, -, -, -, -, -⟩ := id c365
                        clear hpost hI1 hS ht hWt
                        revert hI; generalize H1 = H; generalize locs1 = locs; intro hI
                        refine lv_goto (tgt := 341) hx hb d_Mo_second_171 (by decide) ?_
                        subst hZ
                        exact tz_ret (W.vret hx hb hr (fun t ht hW => ⟨⟨fun v9 hv9 => by cases hv9; exact (Or.inl ⟨t_tr362, t_dp363, t_zi364, mf, rfl, c365, by omega, by rw [ht]; exact hI.1⟩), fun x9 hx9 => (by cases hx9)⟩, hI.2.F ht⟩) hI.2.2.2 d_Mo_second_341)
                      · omega
                    · refine sn_iconst hx hb d_Mo_second_163 (by decide) (fun z376 hz376 => ?_)
                      refine lv_goto (tgt := 168) hx hb d_Mo_second_164 (by decide) ?_
                      refine tz_call (A1 := ga (adM a) H.size) (tz_runV (C := "StoryMachineModel") (As := [.int z376]) (rest := []) ⟨hx, hb, hml, hown, hts⟩ (c_Mo_branch l hfl dC dI cI cJ a H.size th t_tr351 dp zi co sh lt ts mf z376 c359 (by omega) (by omega)) (tx_cb (n := 1) hts rfl rfl ⟨Nat.le_of_ble_eq_true rfl, Nat.le_of_ble_eq_true rfl⟩ (tx_code.of (hts _ mw_1288)) (hts _ mw_12) (by decide +kernel) (hts _ mw_1285)) (hts _ mw_1287) (hts _ ms_Mo_branch) ⟨tz_blind, sv_recv (q0 := 0) hts in_Mo hK hI kM_0 rfl, fun U hU hW => ⟨rfl, by rw [hU], by rw [hU]; exact hI.1, va_K.moved hW.alike hK, hst _ _ hI.2 U hU hW⟩⟩ rfl rfl hl.1 rfl (lv_room (Nat.le_of_ble_eq_true rfl)) d_Mo_second_168 ⟨Nat.le_of_ble_eq_true rfl, Nat.le_of_ble_eq_true rfl⟩) hI.2 (fun q _ h => ga_sub hAC hA0 hI.2 q h) (ga_sub hAC hA0 hI.2) (fun v t H1 locs1 ht hWt hpost _ _ hS => ?_) (fun x t H1 locs1 ht hWt hpost _ _ hS => (hpost.2 x rfl).elim)
                      rcases hpost.1 _ rfl with ⟨t_tr377, t_dp378, t_zi379, hv, c380, c380_0, hI1⟩ | ⟨t_dp381, t_zi382, f_mf383, hv, c384, c384_0, hI1⟩
                      · cases hv
                        have hI : sI (dC, dI) vcl cI cJ (gsM a th t_tr377 t_dp378 t_zi379 co sh lt ts mf) A s.heap H1 locs1 := ⟨by rw [← ht]; exact hI1, hS⟩
                        obtain ⟨-, ⟨o385, o386⟩, ⟨o387, o388⟩, ⟨o389, o390⟩, -, -, -, -, -⟩ := id c380
                        clear hpost hI1 hS ht hWt
                        revert hI; generalize H1 = H; generalize locs1 = locs; intro hI
                        refine lv_goto (tgt := 341) hx hb d_Mo_second_171 (by decide) ?_
                        subst hZ
                        exact tz_ret (W.vret hx hb hr (fun t ht hW => ⟨⟨fun v9 hv9 => by cases hv9; exact (Or.inl ⟨t_tr377, t_dp378, t_zi379, mf, rfl, c380, by omega, by rw [ht]; exact hI.1⟩), fun x9 hx9 => (by cases hx9)⟩, hI.2.F ht⟩) hI.2.2.2 d_Mo_second_341)
                      · omega
                  · cases hv
                    have hI : sI (dC, dI) vcl cI cJ (gsM a th tr dp zi co sh lt ts f_mf354) A s.heap H1 locs1 := ⟨by rw [← ht]; exact hI1, hS⟩
                    obtain ⟨-, -, -, -, -, -, -, -, -⟩ := id c355
                    clear hpost hI1 hS ht hWt
                    revert hI; generalize H1 = H; generalize locs1 = locs; intro hI
                    refine lv_iload_n hx hb d_Mo_second_156 rfl (lv_at hl 3 rfl) ?_
                    refine tz_call (A1 := ga (adM a) H.size) (tz_runS (As := [.int x3]) (rest := [.int z353, .ref (a 0)]) ⟨hx, hb, hml, hown, hts⟩ (c_Mo_signed l hfl dC dI cI cJ a H.size th tr dp zi co sh lt ts f_mf354 x3 c355) (tx_cb (n := 1) hts rfl rfl ⟨Nat.le_of_ble_eq_true rfl, Nat.le_of_ble_eq_true rfl⟩ (tx_code.of (hts _ mw_1316)) (hts _ mw_12) (by decide +kernel) (hts _ mw_1314)) (hts _ mw_1315) ⟨tz_blind, fun U hU hW => ⟨rfl, by rw [hU], by rw [hU]; exact hI.1, va_K.moved hW.alike hK, hst _ _ hI.2 U hU hW⟩⟩ rfl rfl hl.1 rfl (lv_room (Nat.le_of_ble_eq_true rfl)) d_Mo_second_157 ⟨Nat.le_of_ble_eq_true rfl, Nat.le_of_ble_eq_true rfl⟩) hI.2 (fun q _ h => ga_sub hAC hA0 hI.2 q h) (ga_sub hAC hA0 hI.2) (fun v t H1 locs1 ht hWt hpost _ _ hS => ?_) (fun x t H1 locs1 ht hWt hpost _ _ hS => (hpost.2 x rfl).elim)
                    rcases hpost.1 _ rfl with ⟨z391, hv, c392, c392_0, c392_1, c392_2, hI1⟩
                    cases hv
                    have hI : sI (dC, dI) vcl cI cJ (gsM a th tr dp zi co sh lt ts f_mf354) A s.heap H1 locs1 := ⟨by rw [← ht]; exact hI1, hS⟩
                    clear hpost hI1 hS ht hWt
                    revert hI; generalize H1 = H; generalize locs1 = locs; intro hI
                    refine sn_icmp_le (tgt := 167) hx hb d_Mo_second_160 (by decide) (fun b393 => ?_) (fun b393 => ?_)
                    · refine sn_iconst hx hb d_Mo_second_167 (by decide) (fun z394 hz394 => ?_)
                      refine tz_call (A1 := ga (adM a) H.size) (tz_runV (C := "StoryMachineModel") (As := [.int z394]) (rest := []) ⟨hx, hb, hml, hown, hts⟩ (c_Mo_branch l hfl dC dI cI cJ a H.size th tr dp zi co sh lt ts f_mf354 z394 c392 (by omega) (by omega)) (tx_cb (n := 1) hts rfl rfl ⟨Nat.le_of_ble_eq_true rfl, Nat.le_of_ble_eq_true rfl⟩ (tx_code.of (hts _ mw_1288)) (hts _ mw_12) (by decide +kernel) (hts _ mw_1285)) (hts _ mw_1287) (hts _ ms_Mo_branch) ⟨tz_blind, sv_recv (q0 := 0) hts in_Mo hK hI kM_0 rfl, fun U hU hW => ⟨rfl, by rw [hU], by rw [hU]; exact hI.1, va_K.moved hW.alike hK, hst _ _ hI.2 U hU hW⟩⟩ rfl rfl hl.1 rfl (lv_room (Nat.le_of_ble_eq_true rfl)) d_Mo_second_168 ⟨Nat.le_of_ble_eq_true rfl, Nat.le_of_ble_eq_true rfl⟩) hI.2 (fun q _ h => ga_sub hAC hA0 hI.2 q h) (ga_sub hAC hA0 hI.2) (fun v t H1 locs1 ht hWt hpost _ _ hS => ?_) (fun x t H1 locs1 ht hWt hpost _ _ hS => (hpost.2 x rfl).elim)
                      rcases hpost.1 _ rfl with ⟨t_tr395, t_dp396, t_zi397, hv, c398, c398_0, hI1⟩ | ⟨t_dp399, t_zi400, f_mf401, hv, c402, c402_0, hI1⟩
                      · cases hv
                        have hI : sI (dC, dI) vcl cI cJ (gsM a th t_tr395 t_dp396 t_zi397 co sh lt ts f_mf354) A s.heap H1 locs1 := ⟨by rw [← ht]; exact hI1, hS⟩
                        obtain ⟨-, ⟨o403, o404⟩, ⟨o405, o406⟩, ⟨o407, o408⟩, -, -, -, -, -⟩ := id c398
                        clear hpost hI1 hS ht hWt
                        revert hI; generalize H1 = H; generalize locs1 = locs; intro hI
                        refine lv_goto (tgt := 341) hx hb d_Mo_second_171 (by decide) ?_
                        subst hZ
                        exact tz_ret (W.vret hx hb hr (fun t ht hW => ⟨⟨fun v9 hv9 => by cases hv9; exact (Or.inl ⟨t_tr395, t_dp396, t_zi397, f_mf354, rfl, c398, by omega, by rw [ht]; exact hI.1⟩), fun x9 hx9 => (by cases hx9)⟩, hI.2.F ht⟩) hI.2.2.2 d_Mo_second_341)
                      · cases hv
                        have hI : sI (dC, dI) vcl cI cJ (gsM a th tr t_dp399 t_zi400 co sh lt ts f_mf401) A s.heap H1 locs1 := ⟨by rw [← ht]; exact hI1, hS⟩
                        obtain ⟨-, -, ⟨o409, o410⟩, ⟨o411, o412⟩, -, -, -, -, -⟩ := id c402
                        clear hpost hI1 hS ht hWt
                        revert hI; generalize H1 = H; generalize locs1 = locs; intro hI
                        refine lv_goto (tgt := 341) hx hb d_Mo_second_171 (by decide) ?_
                        subst hZ
                        exact tz_ret (W.vret hx hb hr (fun t ht hW => ⟨⟨fun v9 hv9 => by cases hv9; exact (Or.inr (⟨t_dp399, t_zi400, f_mf401, rfl, c402, by omega, by rw [ht]; exact hI.1⟩)), fun x9 hx9 => (by cases hx9)⟩, hI.2.F ht⟩) hI.2.2.2 d_Mo_second_341)
                    · refine sn_iconst hx hb d_Mo_second_163 (by decide) (fun z413 hz413 => ?_)
                      refine lv_goto (tgt := 168) hx hb d_Mo_second_164 (by decide) ?_
                      refine tz_call (A1 := ga (adM a) H.size) (tz_runV (C := "StoryMachineModel") (As := [.int z413]) (rest := []) ⟨hx, hb, hml, hown, hts⟩ (c_Mo_branch l hfl dC dI cI cJ a H.size th tr dp zi co sh lt ts f_mf354 z413 c392 (by omega) (by omega)) (tx_cb (n := 1) hts rfl rfl ⟨Nat.le_of_ble_eq_true rfl, Nat.le_of_ble_eq_true rfl⟩ (tx_code.of (hts _ mw_1288)) (hts _ mw_12) (by decide +kernel) (hts _ mw_1285)) (hts _ mw_1287) (hts _ ms_Mo_branch) ⟨tz_blind, sv_recv (q0 := 0) hts in_Mo hK hI kM_0 rfl, fun U hU hW => ⟨rfl, by rw [hU], by rw [hU]; exact hI.1, va_K.moved hW.alike hK, hst _ _ hI.2 U hU hW⟩⟩ rfl rfl hl.1 rfl (lv_room (Nat.le_of_ble_eq_true rfl)) d_Mo_second_168 ⟨Nat.le_of_ble_eq_true rfl, Nat.le_of_ble_eq_true rfl⟩) hI.2 (fun q _ h => ga_sub hAC hA0 hI.2 q h) (ga_sub hAC hA0 hI.2) (fun v t H1 locs1 ht hWt hpost _ _ hS => ?_) (fun x t H1 locs1 ht hWt hpost _ _ hS => (hpost.2 x rfl).elim)
                      rcases hpost.1 _ rfl with ⟨t_tr414, t_dp415, t_zi416, hv, c417, c417_0, hI1⟩ | ⟨t_dp418, t_zi419, f_mf420, hv, c421, c421_0, hI1⟩
                      · cases hv
                        have hI : sI (dC, dI) vcl cI cJ (gsM a th t_tr414 t_dp415 t_zi416 co sh lt ts f_mf354) A s.heap H1 locs1 := ⟨by rw [← ht]; exact hI1, hS⟩
                        obtain ⟨-, ⟨o422, o423⟩, ⟨o424, o425⟩, ⟨o426, o427⟩, -, -, -, -, -⟩ := id c417
                        clear hpost hI1 hS ht hWt
                        revert hI; generalize H1 = H; generalize locs1 = locs; intro hI
                        refine lv_goto (tgt := 341) hx hb d_Mo_second_171 (by decide) ?_
                        subst hZ
                        exact tz_ret (W.vret hx hb hr (fun t ht hW => ⟨⟨fun v9 hv9 => by cases hv9; exact (Or.inl ⟨t_tr414, t_dp415, t_zi416, f_mf354, rfl, c417, by omega, by rw [ht]; exact hI.1⟩), fun x9 hx9 => (by cases hx9)⟩, hI.2.F ht⟩) hI.2.2.2 d_Mo_second_341)
                      · cases hv
                        have hI : sI (dC, dI) vcl cI cJ (gsM a th tr t_dp418 t_zi419 co sh lt ts f_mf420) A s.heap H1 locs1 := ⟨by rw [← ht]; exact hI1, hS⟩
                        obtain ⟨-, -, ⟨o428, o429⟩, ⟨o430, o431⟩, -, -, -, -, -⟩ := id c421
                        clear hpost hI1 hS ht hWt
                        revert hI; generalize H1 = H; generalize locs1 = locs; intro hI
                        refine lv_goto (tgt := 341) hx hb d_Mo_second_171 (by decide) ?_
                        subst hZ
                        exact tz_ret (W.vret hx hb hr (fun t ht hW => ⟨⟨fun v9 hv9 => by cases hv9; exact (Or.inr (⟨t_dp418, t_zi419, f_mf420, rfl, c421, by omega, by rw [ht]; exact hI.1⟩)), fun x9 hx9 => (by cases hx9)⟩, hI.2.F ht⟩) hI.2.2.2 d_Mo_second_341)
              · refine lv_aload_n hx hb d_Mo_second_119 rfl (lv_at hl 0 rfl) ?_
                refine lv_aload_n hx hb d_Mo_second_120 rfl (lv_at hl 0 rfl) ?_
                refine lv_iload_n hx hb d_Mo_second_121 rfl (lv_at hl 2 rfl) ?_
                refine sn_iconst hx hb d_Mo_second_122 (by decide) (fun z432 hz432 => ?_)
                refine tz_call (A1 := ga (adM a) H.size) (tz_runV (C := "StoryMachineModel") (As := [.int x2, .int z432]) (rest := [.ref (a 0)]) ⟨hx, hb, hml, hown, hts⟩ (c_Mo_change l hfl dC dI cI cJ a H.size th tr dp zi co sh lt ts mf x2 z432 hok (by omega) (by omega) (by omega) (by omega)) (tx_cb (n := 2) hts rfl rfl ⟨Nat.le_of_ble_eq_true rfl, Nat.le_of_ble_eq_true rfl⟩ (tx_code.of (hts _ mw_1321)) (hts _ mw_12) (by decide +kernel) (hts _ mw_1318)) (hts _ mw_1320) (hts _ ms_Mo_change) ⟨tz_blind, sv_recv (q0 := 0) hts in_Mo hK hI kM_0 rfl, fun U hU hW => ⟨rfl, by rw [hU], by rw [hU]; exact hI.1, va_K.moved hW.alike hK, hst _ _ hI.2 U hU hW⟩⟩ rfl rfl hl.1 rfl (lv_room (Nat.le_of_ble_eq_true rfl)) d_Mo_second_123 ⟨Nat.le_of_ble_eq_true rfl, Nat.le_of_ble_eq_true rfl⟩) hI.2 (fun q _ h => ga_sub hAC hA0 hI.2 q h) (ga_sub hAC hA0 hI.2) (fun v t H1 locs1 ht hWt hpost _ _ hS => ?_) (fun x t H1 locs1 ht hWt hpost _ _ hS => (hpost.2 x rfl).elim)
                rcases hpost.1 _ rfl with ⟨z433, t_tr434, hv, c435, c435_0, c435_1, c435_2, hI1⟩ | ⟨z436, f_mf437, hv, c438, c438_0, c438_1, c438_2, c438_3, hI1⟩
                · cases hv
                  have hI : sI (dC, dI) vcl cI cJ (gsM a th t_tr434 dp zi co sh lt ts mf) A s.heap H1 locs1 := ⟨by rw [← ht]; exact hI1, hS⟩
                  obtain ⟨-, ⟨o439, o440⟩, -, -, -, -, -, -, -⟩ := id c435
                  clear hpost hI1 hS ht hWt
                  revert hI; generalize H1 = H; generalize locs1 = locs; intro hI
                  refine lv_iload_n hx hb d_Mo_second_126 rfl (lv_at hl 3 rfl) ?_
                  refine tz_call (A1 := ga (adM a) H.size) (tz_runS (As := [.int x3]) (rest := [.int z433, .ref (a 0)]) ⟨hx, hb, hml, hown, hts⟩ (c_Mo_signed l hfl dC dI cI cJ a H.size th t_tr434 dp zi co sh lt ts mf x3 c435) (tx_cb (n := 1) hts rfl rfl ⟨Nat.le_of_ble_eq_true rfl, Nat.le_of_ble_eq_true rfl⟩ (tx_code.of (hts _ mw_1316)) (hts _ mw_12) (by decide +kernel) (hts _ mw_1314)) (hts _ mw_1315) ⟨tz_blind, fun U hU hW => ⟨rfl, by rw [hU], by rw [hU]; exact hI.1, va_K.moved hW.alike hK, hst _ _ hI.2 U hU hW⟩⟩ rfl rfl hl.1 rfl (lv_room (Nat.le_of_ble_eq_true rfl)) d_Mo_second_127 ⟨Nat.le_of_ble_eq_true rfl, Nat.le_of_ble_eq_true rfl⟩) hI.2 (fun q _ h => ga_sub hAC hA0 hI.2 q h) (ga_sub hAC hA0 hI.2) (fun v t H1 locs1 ht hWt hpost _ _ hS => ?_) (fun x t H1 locs1 ht hWt hpost _ _ hS => (hpost.2 x rfl).elim)
                  rcases hpost.1 _ rfl with ⟨z441, hv, c442, c442_0, c442_1, c442_2, hI1⟩
                  cases hv
                  have hI : sI (dC, dI) vcl cI cJ (gsM a th t_tr434 dp zi co sh lt ts mf) A s.heap H1 locs1 := ⟨by rw [← ht]; exact hI1, hS⟩
                  clear hpost hI1 hS ht hWt
                  revert hI; generalize H1 = H; generalize locs1 = locs; intro hI
                  refine sn_icmp_ge (tgt := 137) hx hb d_Mo_second_130 (by decide) (fun b443 => ?_) (fun b443 => ?_)
                  · refine sn_iconst hx hb d_Mo_second_137 (by decide) (fun z444 hz444 => ?_)
                    refine tz_call (A1 := ga (adM a) H.size) (tz_runV (C := "StoryMachineModel") (As := [.int z444]) (rest := []) ⟨hx, hb, hml, hown, hts⟩ (c_Mo_branch l hfl dC dI cI cJ a H.size th t_tr434 dp zi co sh lt ts mf z444 c442 (by omega) (by omega)) (tx_cb (n := 1) hts rfl rfl ⟨Nat.le_of_ble_eq_true rfl, Nat.le_of_ble_eq_true rfl⟩ (tx_code.of (hts _ mw_1288)) (hts _ mw_12) (by decide +kernel) (hts _ mw_1285)) (hts _ mw_1287) (hts _ ms_Mo_branch) ⟨tz_blind, sv_recv (q0 := 0) hts in_Mo hK hI kM_0 rfl, fun U hU hW => ⟨rfl, by rw [hU], by rw [hU]; exact hI.1, va_K.moved hW.alike hK, hst _ _ hI.2 U hU hW⟩⟩ rfl rfl hl.1 rfl (lv_room (Nat.le_of_ble_eq_true rfl)) d_Mo_second_138 ⟨Nat.le_of_ble_eq_true rfl, Nat.le_of_ble_eq_true rfl⟩) hI.2 (fun q _ h => ga_sub hAC hA0 hI.2 q h) (ga_sub hAC hA0 hI.2) (fun v t H1 locs1 ht hWt hpost _ _ hS => ?_) (fun x t H1 locs1 ht hWt hpost _ _ hS => (hpost.2 x rfl).elim)
                    rcases hpost.1 _ rfl with ⟨t_tr445, t_dp446, t_zi447, hv, c448, c448_0, hI1⟩ | ⟨t_dp449, t_zi450, f_mf451, hv, c452, c452_0, hI1⟩
                    · cases hv
                      have hI : sI (dC, dI) vcl cI cJ (gsM a th t_tr445 t_dp446 t_zi447 co sh lt ts mf) A s.heap H1 locs1 := ⟨by rw [← ht]; exact hI1, hS⟩
                      obtain ⟨-, ⟨o453, o454⟩, ⟨o455, o456⟩, ⟨o457, o458⟩, -, -, -, -, -⟩ := id c448
                      clear hpost hI1 hS ht hWt
                      revert hI; generalize H1 = H; generalize locs1 = locs; intro hI
                      refine lv_goto (tgt := 341) hx hb d_Mo_second_141 (by decide) ?_
                      subst hZ
                      exact tz_ret (W.vret hx hb hr (fun t ht hW => ⟨⟨fun v9 hv9 => by cases hv9; exact (Or.inl ⟨t_tr445, t_dp446, t_zi447, mf, rfl, c448, by omega, by rw [ht]; exact hI.1⟩), fun x9 hx9 => (by cases hx9)⟩, hI.2.F ht⟩) hI.2.2.2 d_Mo_second_341)
                    · omega
                  · refine sn_iconst hx hb d_Mo_second_133 (by decide) (fun z459 hz459 => ?_)
                    refine lv_goto (tgt := 138) hx hb d_Mo_second_134 (by decide) ?_
                    refine tz_call (A1 := ga (adM a) H.size) (tz_runV (C := "StoryMachineModel") (As := [.int z459]) (rest := []) ⟨hx, hb, hml, hown, hts⟩ (c_Mo_branch l hfl dC dI cI cJ a H.size th t_tr434 dp zi co sh lt ts mf z459 c442 (by omega) (by omega)) (tx_cb (n := 1) hts rfl rfl ⟨Nat.le_of_ble_eq_true rfl, Nat.le_of_ble_eq_true rfl⟩ (tx_code.of (hts _ mw_1288)) (hts _ mw_12) (by decide +kernel) (hts _ mw_1285)) (hts _ mw_1287) (hts _ ms_Mo_branch) ⟨tz_blind, sv_recv (q0 := 0) hts in_Mo hK hI kM_0 rfl, fun U hU hW => ⟨rfl, by rw [hU], by rw [hU]; exact hI.1, va_K.moved hW.alike hK, hst _ _ hI.2 U hU hW⟩⟩ rfl rfl hl.1 rfl (lv_room (Nat.le_of_ble_eq_true rfl)) d_Mo_second_138 ⟨Nat.le_of_ble_eq_true rfl, Nat.le_of_ble_eq_true rfl⟩) hI.2 (fun q _ h => ga_sub hAC hA0 hI.2 q h) (ga_sub hAC hA0 hI.2) (fun v t H1 locs1 ht hWt hpost _ _ hS => ?_) (fun x t H1 locs1 ht hWt hpost _ _ hS => (hpost.2 x rfl).elim)
                    rcases hpost.1 _ rfl with ⟨t_tr460, t_dp461, t_zi462, hv, c463, c463_0, hI1⟩ | ⟨t_dp464, t_zi465, f_mf466, hv, c467, c467_0, hI1⟩
                    · cases hv
                      have hI : sI (dC, dI) vcl cI cJ (gsM a th t_tr460 t_dp461 t_zi462 co sh lt ts mf) A s.heap H1 locs1 := ⟨by rw [← ht]; exact hI1, hS⟩
                      obtain ⟨-, ⟨o468, o469⟩, ⟨o470, o471⟩, ⟨o472, o473⟩, -, -, -, -, -⟩ := id c463
                      clear hpost hI1 hS ht hWt
                      revert hI; generalize H1 = H; generalize locs1 = locs; intro hI
                      refine lv_goto (tgt := 341) hx hb d_Mo_second_141 (by decide) ?_
                      subst hZ
                      exact tz_ret (W.vret hx hb hr (fun t ht hW => ⟨⟨fun v9 hv9 => by cases hv9; exact (Or.inl ⟨t_tr460, t_dp461, t_zi462, mf, rfl, c463, by omega, by rw [ht]; exact hI.1⟩), fun x9 hx9 => (by cases hx9)⟩, hI.2.F ht⟩) hI.2.2.2 d_Mo_second_341)
                    · omega
                · cases hv
                  have hI : sI (dC, dI) vcl cI cJ (gsM a th tr dp zi co sh lt ts f_mf437) A s.heap H1 locs1 := ⟨by rw [← ht]; exact hI1, hS⟩
                  obtain ⟨-, -, -, -, -, -, -, -, -⟩ := id c438
                  clear hpost hI1 hS ht hWt
                  revert hI; generalize H1 = H; generalize locs1 = locs; intro hI
                  refine lv_iload_n hx hb d_Mo_second_126 rfl (lv_at hl 3 rfl) ?_
                  refine tz_call (A1 := ga (adM a) H.size) (tz_runS (As := [.int x3]) (rest := [.int z436, .ref (a 0)]) ⟨hx, hb, hml, hown, hts⟩ (c_Mo_signed l hfl dC dI cI cJ a H.size th tr dp zi co sh lt ts f_mf437 x3 c438) (tx_cb (n := 1) hts rfl rfl ⟨Nat.le_of_ble_eq_true rfl, Nat.le_of_ble_eq_true rfl⟩ (tx_code.of (hts _ mw_1316)) (hts _ mw_12) (by decide +kernel) (hts _ mw_1314)) (hts _ mw_1315) ⟨tz_blind, fun U hU hW => ⟨rfl, by rw [hU], by rw [hU]; exact hI.1, va_K.moved hW.alike hK, hst _ _ hI.2 U hU hW⟩⟩ rfl rfl hl.1 rfl (lv_room (Nat.le_of_ble_eq_true rfl)) d_Mo_second_127 ⟨Nat.le_of_ble_eq_true rfl, Nat.le_of_ble_eq_true rfl⟩) hI.2 (fun q _ h => ga_sub hAC hA0 hI.2 q h) (ga_sub hAC hA0 hI.2) (fun v t H1 locs1 ht hWt hpost _ _ hS => ?_) (fun x t H1 locs1 ht hWt hpost _ _ hS => (hpost.2 x rfl).elim)
                  rcases hpost.1 _ rfl with ⟨z474, hv, c475, c475_0, c475_1, c475_2, hI1⟩
                  cases hv
                  have hI : sI (dC, dI) vcl cI cJ (gsM a th tr dp zi co sh lt ts f_mf437) A s.heap H1 locs1 := ⟨by rw [← ht]; exact hI1, hS⟩
                  clear hpost hI1 hS ht hWt
                  revert hI; generalize H1 = H; generalize locs1 = locs; intro hI
                  refine sn_icmp_ge (tgt := 137) hx hb d_Mo_second_130 (by decide) (fun b476 => ?_) (fun b476 => ?_)
                  · refine sn_iconst hx hb d_Mo_second_137 (by decide) (fun z477 hz477 => ?_)
                    refine tz_call (A1 := ga (adM a) H.size) (tz_runV (C := "StoryMachineModel") (As := [.int z477]) (rest := []) ⟨hx, hb, hml, hown, hts⟩ (c_Mo_branch l hfl dC dI cI cJ a H.size th tr dp zi co sh lt ts f_mf437 z477 c475 (by omega) (by omega)) (tx_cb (n := 1) hts rfl rfl ⟨Nat.le_of_ble_eq_true rfl, Nat.le_of_ble_eq_true rfl⟩ (tx_code.of (hts _ mw_1288)) (hts _ mw_12) (by decide +kernel) (hts _ mw_1285)) (hts _ mw_1287) (hts _ ms_Mo_branch) ⟨tz_blind, sv_recv (q0 := 0) hts in_Mo hK hI kM_0 rfl, fun U hU hW => ⟨rfl, by rw [hU], by rw [hU]; exact hI.1, va_K.moved hW.alike hK, hst _ _ hI.2 U hU hW⟩⟩ rfl rfl hl.1 rfl (lv_room (Nat.le_of_ble_eq_true rfl)) d_Mo_second_138 ⟨Nat.le_of_ble_eq_true rfl, Nat.le_of_ble_eq_true rfl⟩) hI.2 (fun q _ h => ga_sub hAC hA0 hI.2 q h) (ga_sub hAC hA0 hI.2) (fun v t H1 locs1 ht hWt hpost _ _ hS => ?_) (fun x t H1 locs1 ht hWt hpost _ _ hS => (hpost.2 x rfl).elim)
                    rcases hpost.1 _ rfl with ⟨t_tr478, t_dp479, t_zi480, hv, c481, c481_0, hI1⟩ | ⟨t_dp482, t_zi483, f_mf484, hv, c485, c485_0, hI1⟩
                    · cases hv
                      have hI : sI (dC, dI) vcl cI cJ (gsM a th t_tr478 t_dp479 t_zi480 co sh lt ts f_mf437) A s.heap H1 locs1 := ⟨by rw [← ht]; exact hI1, hS⟩
                      obtain ⟨-, ⟨o486, o487⟩, ⟨o488, o489⟩, ⟨o490, o491⟩, -, -, -, -, -⟩ := id c481
                      clear hpost hI1 hS ht hWt
                      revert hI; generalize H1 = H; generalize locs1 = locs; intro hI
                      refine lv_goto (tgt := 341) hx hb d_Mo_second_141 (by decide) ?_
                      subst hZ
                      exact tz_ret (W.vret hx hb hr (fun t ht hW => ⟨⟨fun v9 hv9 => by cases hv9; exact (Or.inl ⟨t_tr478, t_dp479, t_zi480, f_mf437, rfl, c481, by omega, by rw [ht]; exact hI.1⟩), fun x9 hx9 => (by cases hx9)⟩, hI.2.F ht⟩) hI.2.2.2 d_Mo_second_341)
                    · cases hv
                      have hI : sI (dC, dI) vcl cI cJ (gsM a th tr t_dp482 t_zi483 co sh lt ts f_mf484) A s.heap H1 locs1 := ⟨by rw [← ht]; exact hI1, hS⟩
                      obtain ⟨-, -, ⟨o492, o493⟩, ⟨o494, o495⟩, -, -, -, -, -⟩ := id c485
                      clear hpost hI1 hS ht hWt
                      revert hI; generalize H1 = H; generalize locs1 = locs; intro hI
                      refine lv_goto (tgt := 341) hx hb d_Mo_second_141 (by decide) ?_
                      subst hZ
                      exact tz_ret (W.vret hx hb hr (fun t ht hW => ⟨⟨fun v9 hv9 => by cases hv9; exact (Or.inr (⟨t_dp482, t_zi483, f_mf484, rfl, c485, by omega, by rw [ht]; exact hI.1⟩)), fun x9 hx9 => (by cases hx9)⟩, hI.2.F ht⟩) hI.2.2.2 d_Mo_second_341)
                  · refine sn_iconst hx hb d_Mo_second_133 (by decide) (fun z496 hz496 => ?_)
                    refine lv_goto (tgt := 138) hx hb d_Mo_second_134 (by decide) ?_
                    refine tz_call (A1 := ga (adM a) H.size) (tz_runV (C := "StoryMachineModel") (As := [.int z496]) (rest := []) ⟨hx, hb, hml, hown, hts⟩ (c_Mo_branch l hfl dC dI cI cJ a H.size th tr dp zi co sh lt ts f_mf437 z496 c475 (by omega) (by omega)) (tx_cb (n := 1) hts rfl rfl ⟨Nat.le_of_ble_eq_true rfl, Nat.le_of_ble_eq_true rfl⟩ (tx_code.of (hts _ mw_1288)) (hts _ mw_12) (by decide +kernel) (hts _ mw_1285)) (hts _ mw_1287) (hts _ ms_Mo_branch) ⟨tz_blind, sv_recv (q0 := 0) hts in_Mo hK hI kM_0 rfl, fun U hU hW => ⟨rfl, by rw [hU], by rw [hU]; exact hI.1, va_K.moved hW.alike hK, hst _ _ hI.2 U hU hW⟩⟩ rfl rfl hl.1 rfl (lv_room (Nat.le_of_ble_eq_true rfl)) d_Mo_second_138 ⟨Nat.le_of_ble_eq_true rfl, Nat.le_of_ble_eq_true rfl⟩) hI.2 (fun q _ h => ga_sub hAC hA0 hI.2 q h) (ga_sub hAC hA0 hI.2) (fun v t H1 locs1 ht hWt hpost _ _ hS => ?_) (fun x t H1 locs1 ht hWt hpost _ _ hS => (hpost.2 x rfl).elim)
                    rcases hpost.1 _ rfl with ⟨t_tr497, t_dp498, t_zi499, hv, c500, c500_0, hI1⟩ | ⟨t_dp501, t_zi502, f_mf503, hv, c504, c504_0, hI1⟩
                    · cases hv
                      have hI : sI (dC, dI) vcl cI cJ (gsM a th t_tr497 t_dp498 t_zi499 co sh lt ts f_mf437) A s.heap H1 locs1 := ⟨by rw [← ht]; exact hI1, hS⟩
                      obtain ⟨-, ⟨o505, o506⟩, ⟨o507, o508⟩, ⟨o509, o510⟩, -, -, -, -, -⟩ := id c500
                      clear hpost hI1 hS ht hWt
                      revert hI; generalize H1 = H; generalize locs1 = locs; intro hI
                      refine lv_goto (tgt := 341) hx hb d_Mo_second_141 (by decide) ?_
                      subst hZ
                      exact tz_ret (W.vret hx hb hr (fun t ht hW => ⟨⟨fun v9 hv9 => by cases hv9; exact (Or.inl ⟨t_tr497, t_dp498, t_zi499, f_mf437, rfl, c500, by omega, by rw [ht]; exact hI.1⟩), fun x9 hx9 => (by cases hx9)⟩, hI.2.F ht⟩) hI.2.2.2 d_Mo_second_341)
                    · cases hv
                      have hI : sI (dC, dI) vcl cI cJ (gsM a th tr t_dp501 t_zi502 co sh lt ts f_mf503) A s.heap H1 locs1 := ⟨by rw [← ht]; exact hI1, hS⟩
                      obtain ⟨-, -, ⟨o511, o512⟩, ⟨o513, o514⟩, -, -, -, -, -⟩ := id c504
                      clear hpost hI1 hS ht hWt
                      revert hI; generalize H1 = H; generalize locs1 = locs; intro hI
                      refine lv_goto (tgt := 341) hx hb d_Mo_second_141 (by decide) ?_
                      subst hZ
                      exact tz_ret (W.vret hx hb hr (fun t ht hW => ⟨⟨fun v9 hv9 => by cases hv9; exact (Or.inr (⟨t_dp501, t_zi502, f_mf503, rfl, c504, by omega, by rw [ht]; exact hI.1⟩)), fun x9 hx9 => (by cases hx9)⟩, hI.2.F ht⟩) hI.2.2.2 d_Mo_second_341)
            · refine lv_aload_n hx hb d_Mo_second_91 rfl (lv_at hl 0 rfl) ?_
              refine lv_iload_n hx hb d_Mo_second_92 rfl (lv_at hl 2 rfl) ?_
              refine tz_call (A1 := ga (adM a) H.size) (tz_runS (As := [.int x2]) (rest := [.ref (a 0)]) ⟨hx, hb, hml, hown, hts⟩ (c_Mo_signed l hfl dC dI cI cJ a H.size th tr dp zi co sh lt ts mf x2 hok) (tx_cb (n := 1) hts rfl rfl ⟨Nat.le_of_ble_eq_true rfl, Nat.le_of_ble_eq_true rfl⟩ (tx_code.of (hts _ mw_1316)) (hts _ mw_12) (by decide +kernel) (hts _ mw_1314)) (hts _ mw_1315) ⟨tz_blind, fun U hU hW => ⟨rfl, by rw [hU], by rw [hU]; exact hI.1, va_K.moved hW.alike hK, hst _ _ hI.2 U hU hW⟩⟩ rfl rfl hl.1 rfl (lv_room (Nat.le_of_ble_eq_true rfl)) d_Mo_second_93 ⟨Nat.le_of_ble_eq_true rfl, Nat.le_of_ble_eq_true rfl⟩) hI.2 (fun q _ h => ga_sub hAC hA0 hI.2 q h) (ga_sub hAC hA0 hI.2) (fun v t H1 locs1 ht hWt hpost _ _ hS => ?_) (fun x t H1 locs1 ht hWt hpost _ _ hS => (hpost.2 x rfl).elim)
              rcases hpost.1 _ rfl with ⟨z515, hv, c516, c516_0, c516_1, c516_2, hI1⟩
              cases hv
              have hI : sI (dC, dI) vcl cI cJ (gsM a th tr dp zi co sh lt ts mf) A s.heap H1 locs1 := ⟨by rw [← ht]; exact hI1, hS⟩
              clear hpost hI1 hS ht hWt
              revert hI; generalize H1 = H; generalize locs1 = locs; intro hI
              refine lv_iload_n hx hb d_Mo_second_96 rfl (lv_at hl 3 rfl) ?_
              refine tz_call (A1 := ga (adM a) H.size) (tz_runS (As := [.int x3]) (rest := [.int z515, .ref (a 0)]) ⟨hx, hb, hml, hown, hts⟩ (c_Mo_signed l hfl dC dI cI cJ a H.size th tr dp zi co sh lt ts mf x3 c516) (tx_cb (n := 1) hts rfl rfl ⟨Nat.le_of_ble_eq_true rfl, Nat.le_of_ble_eq_true rfl⟩ (tx_code.of (hts _ mw_1316)) (hts _ mw_12) (by decide +kernel) (hts _ mw_1314)) (hts _ mw_1315) ⟨tz_blind, fun U hU hW => ⟨rfl, by rw [hU], by rw [hU]; exact hI.1, va_K.moved hW.alike hK, hst _ _ hI.2 U hU hW⟩⟩ rfl rfl hl.1 rfl (lv_room (Nat.le_of_ble_eq_true rfl)) d_Mo_second_97 ⟨Nat.le_of_ble_eq_true rfl, Nat.le_of_ble_eq_true rfl⟩) hI.2 (fun q _ h => ga_sub hAC hA0 hI.2 q h) (ga_sub hAC hA0 hI.2) (fun v t H1 locs1 ht hWt hpost _ _ hS => ?_) (fun x t H1 locs1 ht hWt hpost _ _ hS => (hpost.2 x rfl).elim)
              rcases hpost.1 _ rfl with ⟨z517, hv, c518, c518_0, c518_1, c518_2, hI1⟩
              cases hv
              have hI : sI (dC, dI) vcl cI cJ (gsM a th tr dp zi co sh lt ts mf) A s.heap H1 locs1 := ⟨by rw [← ht]; exact hI1, hS⟩
              clear hpost hI1 hS ht hWt
              revert hI; generalize H1 = H; generalize locs1 = locs; intro hI
              refine sn_icmp_le (tgt := 107) hx hb d_Mo_second_100 (by decide) (fun b519 => ?_) (fun b519 => ?_)
              · refine sn_iconst hx hb d_Mo_second_107 (by decide) (fun z520 hz520 => ?_)
                refine tz_call (A1 := ga (adM a) H.size) (tz_runV (C := "StoryMachineModel") (As := [.int z520]) (rest := []) ⟨hx, hb, hml, hown, hts⟩ (c_Mo_branch l hfl dC dI cI cJ a H.size th tr dp zi co sh lt ts mf z520 c518 (by omega) (by omega)) (tx_cb (n := 1) hts rfl rfl ⟨Nat.le_of_ble_eq_true rfl, Nat.le_of_ble_eq_true rfl⟩ (tx_code.of (hts _ mw_1288)) (hts _ mw_12) (by decide +kernel) (hts _ mw_1285)) (hts _ mw_1287) (hts _ ms_Mo_branch) ⟨tz_blind, sv_recv (q0 := 0) hts in_Mo hK hI kM_0 rfl, fun U hU hW => ⟨rfl, by rw [hU], by rw [hU]; exact hI.1, va_K.moved hW.alike hK, hst _ _ hI.2 U hU hW⟩⟩ rfl rfl hl.1 rfl (lv_room (Nat.le_of_ble_eq_true rfl)) d_Mo_second_108 ⟨Nat.le_of_ble_eq_true rfl, Nat.le_of_ble_eq_true rfl⟩) hI.2 (fun q _ h => ga_sub hAC hA0 hI.2 q h) (ga_sub hAC hA0 hI.2) (fun v t H1 locs1 ht hWt hpost _ _ hS => ?_) (fun x t H1 locs1 ht hWt hpost _ _ hS => (hpost.2 x rfl).elim)
                rcases hpost.1 _ rfl with ⟨t_tr521, t_dp522, t_zi523, hv, c524, c524_0, hI1⟩ | ⟨t_dp525, t_zi526, f_mf527, hv, c528, c528_0, hI1⟩
                · cases hv
                  have hI : sI (dC, dI) vcl cI cJ (gsM a th t_tr521 t_dp522 t_zi523 co sh lt ts mf) A s.heap H1 locs1 := ⟨by rw [← ht]; exact hI1, hS⟩
                  obtain ⟨-, ⟨o529, o530⟩, ⟨o531, o532⟩, ⟨o533, o534⟩, -, -, -, -, -⟩ := id c524
                  clear hpost hI1 hS ht hWt
                  revert hI; generalize H1 = H; generalize locs1 = locs; intro hI
                  refine lv_goto (tgt := 341) hx hb d_Mo_second_111 (by decide) ?_
                  subst hZ
                  exact tz_ret (W.vret hx hb hr (fun t ht hW => ⟨⟨fun v9 hv9 => by cases hv9; exact (Or.inl ⟨t_tr521, t_dp522, t_zi523, mf, rfl, c524, by omega, by rw [ht]; exact hI.1⟩), fun x9 hx9 => (by cases hx9)⟩, hI.2.F ht⟩) hI.2.2.2 d_Mo_second_341)
                · cases hv
                  have hI : sI (dC, dI) vcl cI cJ (gsM a th tr t_dp525 t_zi526 co sh lt ts f_mf527) A s.heap H1 locs1 := ⟨by rw [← ht]; exact hI1, hS⟩
                  obtain ⟨-, -, ⟨o535, o536⟩, ⟨o537, o538⟩, -, -, -, -, -⟩ := id c528
                  clear hpost hI1 hS ht hWt
                  revert hI; generalize H1 = H; generalize locs1 = locs; intro hI
                  refine lv_goto (tgt := 341) hx hb d_Mo_second_111 (by decide) ?_
                  subst hZ
                  exact tz_ret (W.vret hx hb hr (fun t ht hW => ⟨⟨fun v9 hv9 => by cases hv9; exact (Or.inr (⟨t_dp525, t_zi526, f_mf527, rfl, c528, by omega, by rw [ht]; exact hI.1⟩)), fun x9 hx9 => (by cases hx9)⟩, hI.2.F ht⟩) hI.2.2.2 d_Mo_second_341)
              · refine sn_iconst hx hb d_Mo_second_103 (by decide) (fun z539 hz539 => ?_)
                refine lv_goto (tgt := 108) hx hb d_Mo_second_104 (by decide) ?_
                refine tz_call (A1 := ga (adM a) H.size) (tz_runV (C := "StoryMachineModel") (As := [.int z539]) (rest := []) ⟨hx, hb, hml, hown, hts⟩ (c_Mo_branch l hfl dC dI cI cJ a H.size th tr dp zi co sh lt ts mf z539 c518 (by omega) (by omega)) (tx_cb (n := 1) hts rfl rfl ⟨Nat.le_of_ble_eq_true rfl, Nat.le_of_ble_eq_true rfl⟩ (tx_code.of (hts _ mw_1288)) (hts _ mw_12) (by decide +kernel) (hts _ mw_1285)) (hts _ mw_1287) (hts _ ms_Mo_branch) ⟨tz_blind, sv_recv (q0 := 0) hts in_Mo hK hI kM_0 rfl, fun U hU hW => ⟨rfl, by rw [hU], by rw [hU]; exact hI.1, va_K.moved hW.alike hK, hst _ _ hI.2 U hU hW⟩⟩ rfl rfl hl.1 rfl (lv_room (Nat.le_of_ble_eq_true rfl)) d_Mo_second_108 ⟨Nat.le_of_ble_eq_true rfl, Nat.le_of_ble_eq_true rfl⟩) hI.2 (fun q _ h => ga_sub hAC hA0 hI.2 q h) (ga_sub hAC hA0 hI.2) (fun v t H1 locs1 ht hWt hpost _ _ hS => ?_) (fun x t H1 locs1 ht hWt hpost _ _ hS => (hpost.2 x rfl).elim)
                rcases hpost.1 _ rfl with ⟨t_tr540, t_dp541, t_zi542, hv, c543, c543_0, hI1⟩ | ⟨t_dp544, t_zi545, f_mf546, hv, c547, c547_0, hI1⟩
                · cases hv
                  have hI : sI (dC, dI) vcl cI cJ (gsM a th t_tr540 t_dp541 t_zi542 co sh lt ts mf) A s.heap H1 locs1 := ⟨by rw [← ht]; exact hI1, hS⟩
                  obtain ⟨-, ⟨o548, o549⟩, ⟨o550, o551⟩, ⟨o552, o553⟩, -, -, -, -, -⟩ := id c543
                  clear hpost hI1 hS ht hWt
                  revert hI; generalize H1 = H; generalize locs1 = locs; intro hI
                  refine lv_goto (tgt := 341) hx hb d_Mo_second_111 (by decide) ?_
                  subst hZ
                  exact tz_ret (W.vret hx hb hr (fun t ht hW => ⟨⟨fun v9 hv9 => by cases hv9; exact (Or.inl ⟨t_tr540, t_dp541, t_zi542, mf, rfl, c543, by omega, by rw [ht]; exact hI.1⟩), fun x9 hx9 => (by cases hx9)⟩, hI.2.F ht⟩) hI.2.2.2 d_Mo_second_341)
                · cases hv
                  have hI : sI (dC, dI) vcl cI cJ (gsM a th tr t_dp544 t_zi545 co sh lt ts f_mf546) A s.heap H1 locs1 := ⟨by rw [← ht]; exact hI1, hS⟩
                  obtain ⟨-, -, ⟨o554, o555⟩, ⟨o556, o557⟩, -, -, -, -, -⟩ := id c547
                  clear hpost hI1 hS ht hWt
                  revert hI; generalize H1 = H; generalize locs1 = locs; intro hI
                  refine lv_goto (tgt := 341) hx hb d_Mo_second_111 (by decide) ?_
                  subst hZ
                  exact tz_ret (W.vret hx hb hr (fun t ht hW => ⟨⟨fun v9 hv9 => by cases hv9; exact (Or.inr (⟨t_dp544, t_zi545, f_mf546, rfl, c547, by omega, by rw [ht]; exact hI.1⟩)), fun x9 hx9 => (by cases hx9)⟩, hI.2.F ht⟩) hI.2.2.2 d_Mo_second_341)
          · refine lv_aload_n hx hb d_Mo_second_63 rfl (lv_at hl 0 rfl) ?_
            refine lv_iload_n hx hb d_Mo_second_64 rfl (lv_at hl 2 rfl) ?_
            refine tz_call (A1 := ga (adM a) H.size) (tz_runS (As := [.int x2]) (rest := [.ref (a 0)]) ⟨hx, hb, hml, hown, hts⟩ (c_Mo_signed l hfl dC dI cI cJ a H.size th tr dp zi co sh lt ts mf x2 hok) (tx_cb (n := 1) hts rfl rfl ⟨Nat.le_of_ble_eq_true rfl, Nat.le_of_ble_eq_true rfl⟩ (tx_code.of (hts _ mw_1316)) (hts _ mw_12) (by decide +kernel) (hts _ mw_1314)) (hts _ mw_1315) ⟨tz_blind, fun U hU hW => ⟨rfl, by rw [hU], by rw [hU]; exact hI.1, va_K.moved hW.alike hK, hst _ _ hI.2 U hU hW⟩⟩ rfl rfl hl.1 rfl (lv_room (Nat.le_of_ble_eq_true rfl)) d_Mo_second_65 ⟨Nat.le_of_ble_eq_true rfl, Nat.le_of_ble_eq_true rfl⟩) hI.2 (fun q _ h => ga_sub hAC hA0 hI.2 q h) (ga_sub hAC hA0 hI.2) (fun v t H1 locs1 ht hWt hpost _ _ hS => ?_) (fun x t H1 locs1 ht hWt hpost _ _ hS => (hpost.2 x rfl).elim)
            rcases hpost.1 _ rfl with ⟨z558, hv, c559, c559_0, c559_1, c559_2, hI1⟩
            cases hv
            have hI : sI (dC, dI) vcl cI cJ (gsM a th tr dp zi co sh lt ts mf) A s.heap H1 locs1 := ⟨by rw [← ht]; exact hI1, hS⟩
            clear hpost hI1 hS ht hWt
            revert hI; generalize H1 = H; generalize locs1 = locs; intro hI
            refine lv_iload_n hx hb d_Mo_second_68 rfl (lv_at hl 3 rfl) ?_
            refine tz_call (A1 := ga (adM a) H.size) (tz_runS (As := [.int x3]) (rest := [.int z558, .ref (a 0)]) ⟨hx, hb, hml, hown, hts⟩ (c_Mo_signed l hfl dC dI cI cJ a H.size th tr dp zi co sh lt ts mf x3 c559) (tx_cb (n := 1) hts rfl rfl ⟨Nat.le_of_ble_eq_true rfl, Nat.le_of_ble_eq_true rfl⟩ (tx_code.of (hts _ mw_1316)) (hts _ mw_12) (by decide +kernel) (hts _ mw_1314)) (hts _ mw_1315) ⟨tz_blind, fun U hU hW => ⟨rfl, by rw [hU], by rw [hU]; exact hI.1, va_K.moved hW.alike hK, hst _ _ hI.2 U hU hW⟩⟩ rfl rfl hl.1 rfl (lv_room (Nat.le_of_ble_eq_true rfl)) d_Mo_second_69 ⟨Nat.le_of_ble_eq_true rfl, Nat.le_of_ble_eq_true rfl⟩) hI.2 (fun q _ h => ga_sub hAC hA0 hI.2 q h) (ga_sub hAC hA0 hI.2) (fun v t H1 locs1 ht hWt hpost _ _ hS => ?_) (fun x t H1 locs1 ht hWt hpost _ _ hS => (hpost.2 x rfl).elim)
            rcases hpost.1 _ rfl with ⟨z560, hv, c561, c561_0, c561_1, c561_2, hI1⟩
            cases hv
            have hI : sI (dC, dI) vcl cI cJ (gsM a th tr dp zi co sh lt ts mf) A s.heap H1 locs1 := ⟨by rw [← ht]; exact hI1, hS⟩
            clear hpost hI1 hS ht hWt
            revert hI; generalize H1 = H; generalize locs1 = locs; intro hI
            refine sn_icmp_ge (tgt := 79) hx hb d_Mo_second_72 (by decide) (fun b562 => ?_) (fun b562 => ?_)
            · refine sn_iconst hx hb d_Mo_second_79 (by decide) (fun z563 hz563 => ?_)
              refine tz_call (A1 := ga (adM a) H.size) (tz_runV (C := "StoryMachineModel") (As := [.int z563]) (rest := []) ⟨hx, hb, hml, hown, hts⟩ (c_Mo_branch l hfl dC dI cI cJ a H.size th tr dp zi co sh lt ts mf z563 c561 (by omega) (by omega)) (tx_cb (n := 1) hts rfl rfl ⟨Nat.le_of_ble_eq_true rfl, Nat.le_of_ble_eq_true rfl⟩ (tx_code.of (hts _ mw_1288)) (hts _ mw_12) (by decide +kernel) (hts _ mw_1285)) (hts _ mw_1287) (hts _ ms_Mo_branch) ⟨tz_blind, sv_recv (q0 := 0) hts in_Mo hK hI kM_0 rfl, fun U hU hW => ⟨rfl, by rw [hU], by rw [hU]; exact hI.1, va_K.moved hW.alike hK, hst _ _ hI.2 U hU hW⟩⟩ rfl rfl hl.1 rfl (lv_room (Nat.le_of_ble_eq_true rfl)) d_Mo_second_80 ⟨Nat.le_of_ble_eq_true rfl, Nat.le_of_ble_eq_true rfl⟩) hI.2 (fun q _ h => ga_sub hAC hA0 hI.2 q h) (ga_sub hAC hA0 hI.2) (fun v t H1 locs1 ht hWt hpost _ _ hS => ?_) (fun x t H1 locs1 ht hWt hpost _ _ hS => (hpost.2 x rfl).elim)
              rcases hpost.1 _ rfl with ⟨t_tr564, t_dp565, t_zi566, hv, c567, c567_0, hI1⟩ | ⟨t_dp568, t_zi569, f_mf570, hv, c571, c571_0, hI1⟩
              · cases hv
                have hI : sI (dC, dI) vcl cI cJ (gsM a th t_tr564 t_dp565 t_zi566 co sh lt ts mf) A s.heap H1 locs1 := ⟨by rw [← ht]; exact hI1, hS⟩
                obtain ⟨-, ⟨o572, o573⟩, ⟨o574, o575⟩, ⟨o576, o577⟩, -, -, -, -, -⟩ := id c567
                clear hpost hI1 hS ht hWt
                revert hI; generalize H1 = H; generalize locs1 = locs; intro hI
                refine lv_goto (tgt := 341) hx hb d_Mo_second_83 (by decide) ?_
                subst hZ
                exact tz_ret (W.vret hx hb hr (fun t ht hW => ⟨⟨fun v9 hv9 => by cases hv9; exact (Or.inl ⟨t_tr564, t_dp565, t_zi566, mf, rfl, c567, by omega, by rw [ht]; exact hI.1⟩), fun x9 hx9 => (by cases hx9)⟩, hI.2.F ht⟩) hI.2.2.2 d_Mo_second_341)
              · cases hv
                have hI : sI (dC, dI) vcl cI cJ (gsM a th tr t_dp568 t_zi569 co sh lt ts f_mf570) A s.heap H1 locs1 := ⟨by rw [← ht]; exact hI1, hS⟩
                obtain ⟨-, -, ⟨o578, o579⟩, ⟨o580, o581⟩, -, -, -, -, -⟩ := id c571
                clear hpost hI1 hS ht hWt
                revert hI; generalize H1 = H; generalize locs1 = locs; intro hI
                refine lv_goto (tgt := 341) hx hb d_Mo_second_83 (by decide) ?_
                subst hZ
                exact tz_ret (W.vret hx hb hr (fun t ht hW => ⟨⟨fun v9 hv9 => by cases hv9; exact (Or.inr (⟨t_dp568, t_zi569, f_mf570, rfl, c571, by omega, by rw [ht]; exact hI.1⟩)), fun x9 hx9 => (by cases hx9)⟩, hI.2.F ht⟩) hI.2.2.2 d_Mo_second_341)
            · refine sn_iconst hx hb d_Mo_second_75 (by decide) (fun z582 hz582 => ?_)
              refine lv_goto (tgt := 80) hx hb d_Mo_second_76 (by decide) ?_
              refine tz_call (A1 := ga (adM a) H.size) (tz_runV (C := "StoryMachineModel") (As := [.int z582]) (rest := []) ⟨hx, hb, hml, hown, hts⟩ (c_Mo_branch l hfl dC dI cI cJ a H.size th tr dp zi co sh lt ts mf z582 c561 (by omega) (by omega)) (tx_cb (n := 1) hts rfl rfl ⟨Nat.le_of_ble_eq_true rfl, Nat.le_of_ble_eq_true rfl⟩ (tx_code.of (hts _ mw_1288)) (hts _ mw_12) (by decide +kernel) (hts _ mw_1285)) (hts _ mw_1287) (hts _ ms_Mo_branch) ⟨tz_blind, sv_recv (q0 := 0) hts in_Mo hK hI kM_0 rfl, fun U hU hW => ⟨rfl, by rw [hU], by rw [hU]; exact hI.1, va_K.moved hW.alike hK, hst _ _ hI.2 U hU hW⟩⟩ rfl rfl hl.1 rfl (lv_room (Nat.le_of_ble_eq_true rfl)) d_Mo_second_80 ⟨Nat.le_of_ble_eq_true rfl, Nat.le_of_ble_eq_true rfl⟩) hI.2 (fun q _ h => ga_sub hAC hA0 hI.2 q h) (ga_sub hAC hA0 hI.2) (fun v t H1 locs1 ht hWt hpost _ _ hS => ?_) (fun x t H1 locs1 ht hWt hpost _ _ hS => (hpost.2 x rfl).elim)
              rcases hpost.1 _ rfl with ⟨t_tr583, t_dp584, t_zi585, hv, c586, c586_0, hI1⟩ | ⟨t_dp587, t_zi588, f_mf589, hv, c590, c590_0, hI1⟩
              · cases hv
                have hI : sI (dC, dI) vcl cI cJ (gsM a th t_tr583 t_dp584 t_zi585 co sh lt ts mf) A s.heap H1 locs1 := ⟨by rw [← ht]; exact hI1, hS⟩
                obtain ⟨-, ⟨o591, o592⟩, ⟨o593, o594⟩, ⟨o595, o596⟩, -, -, -, -, -⟩ := id c586
                clear hpost hI1 hS ht hWt
                revert hI; generalize H1 = H; generalize locs1 = locs; intro hI
                refine lv_goto (tgt := 341) hx hb d_Mo_second_83 (by decide) ?_
                subst hZ
                exact tz_ret (W.vret hx hb hr (fun t ht hW => ⟨⟨fun v9 hv9 => by cases hv9; exact (Or.inl ⟨t_tr583, t_dp584, t_zi585, mf, rfl, c586, by omega, by rw [ht]; exact hI.1⟩), fun x9 hx9 => (by cases hx9)⟩, hI.2.F ht⟩) hI.2.2.2 d_Mo_second_341)
              · cases hv
                have hI : sI (dC, dI) vcl cI cJ (gsM a th tr t_dp587 t_zi588 co sh lt ts f_mf589) A s.heap H1 locs1 := ⟨by rw [← ht]; exact hI1, hS⟩
                obtain ⟨-, -, ⟨o597, o598⟩, ⟨o599, o600⟩, -, -, -, -, -⟩ := id c590
                clear hpost hI1 hS ht hWt
                revert hI; generalize H1 = H; generalize locs1 = locs; intro hI
                refine lv_goto (tgt := 341) hx hb d_Mo_second_83 (by decide) ?_
                subst hZ
                exact tz_ret (W.vret hx hb hr (fun t ht hW => ⟨⟨fun v9 hv9 => by cases hv9; exact (Or.inr (⟨t_dp587, t_zi588, f_mf589, rfl, c590, by omega, by rw [ht]; exact hI.1⟩)), fun x9 hx9 => (by cases hx9)⟩, hI.2.F ht⟩) hI.2.2.2 d_Mo_second_341)
        · refine lv_aload_n hx hb d_Mo_second_49 rfl (lv_at hl 0 rfl) ?_
          refine lv_iload hx hb d_Mo_second_50 (lv_at hl 4 rfl) ?_
          refine tz_call (A1 := ga (adM a) H.size) (tz_runV (C := "StoryMachineModel") (As := [.int v6u_4]) (rest := []) ⟨hx, hb, hml, hown, hts⟩ (c_Mo_branch l hfl dC dI cI cJ a H.size th tr dp zi co sh lt ts mf v6u_4 hok (by omega) (by omega)) (tx_cb (n := 1) hts rfl rfl ⟨Nat.le_of_ble_eq_true rfl, Nat.le_of_ble_eq_true rfl⟩ (tx_code.of (hts _ mw_1288)) (hts _ mw_12) (by decide +kernel) (hts _ mw_1285)) (hts _ mw_1287) (hts _ ms_Mo_branch) ⟨tz_blind, sv_recv (q0 := 0) hts in_Mo hK hI kM_0 rfl, fun U hU hW => ⟨rfl, by rw [hU], by rw [hU]; exact hI.1, va_K.moved hW.alike hK, hst _ _ hI.2 U hU hW⟩⟩ rfl rfl hl.1 rfl (lv_room (Nat.le_of_ble_eq_true rfl)) d_Mo_second_52 ⟨Nat.le_of_ble_eq_true rfl, Nat.le_of_ble_eq_true rfl⟩) hI.2 (fun q _ h => ga_sub hAC hA0 hI.2 q h) (ga_sub hAC hA0 hI.2) (fun v t H1 locs1 ht hWt hpost _ _ hS => ?_) (fun x t H1 locs1 ht hWt hpost _ _ hS => (hpost.2 x rfl).elim)
          rcases hpost.1 _ rfl with ⟨t_tr601, t_dp602, t_zi603, hv, c604, c604_0, hI1⟩ | ⟨t_dp605, t_zi606, f_mf607, hv, c608, c608_0, hI1⟩
          · cases hv
            have hI : sI (dC, dI) vcl cI cJ (gsM a th t_tr601 t_dp602 t_zi603 co sh lt ts mf) A s.heap H1 locs1 := ⟨by rw [← ht]; exact hI1, hS⟩
            obtain ⟨-, ⟨o609, o610⟩, ⟨o611, o612⟩, ⟨o613, o614⟩, -, -, -, -, -⟩ := id c604
            clear hpost hI1 hS ht hWt
            revert hI; generalize H1 = H; generalize locs1 = locs; intro hI
            refine lv_goto (tgt := 341) hx hb d_Mo_second_55 (by decide) ?_
            subst hZ
            exact tz_ret (W.vret hx hb hr (fun t ht hW => ⟨⟨fun v9 hv9 => by cases hv9; exact (Or.inl ⟨t_tr601, t_dp602, t_zi603, mf, rfl, c604, by omega, by rw [ht]; exact hI.1⟩), fun x9 hx9 => (by cases hx9)⟩, hI.2.F ht⟩) hI.2.2.2 d_Mo_second_341)
          · cases hv
            have hI : sI (dC, dI) vcl cI cJ (gsM a th tr t_dp605 t_zi606 co sh lt ts f_mf607) A s.heap H1 locs1 := ⟨by rw [← ht]; exact hI1, hS⟩
            obtain ⟨-, -, ⟨o615, o616⟩, ⟨o617, o618⟩, -, -, -, -, -⟩ := id c608
            clear hpost hI1 hS ht hWt
            revert hI; generalize H1 = H; generalize locs1 = locs; intro hI
            refine lv_goto (tgt := 341) hx hb d_Mo_second_55 (by decide) ?_
            subst hZ
            exact tz_ret (W.vret hx hb hr (fun t ht hW => ⟨⟨fun v9 hv9 => by cases hv9; exact (Or.inr (⟨t_dp605, t_zi606, f_mf607, rfl, c608, by omega, by rw [ht]; exact hI.1⟩)), fun x9 hx9 => (by cases hx9)⟩, hI.2.F ht⟩) hI.2.2.2 d_Mo_second_341)
      · refine lv_iload hx hb d_Mo_second_15 (lv_at hl 4 rfl) ?_
        refine sn_if_ne (tgt := 31) hx hb d_Mo_second_17 (by decide) (fun b619 => ?_) (fun b619 => ?_)
        · exact j31u _ _ _  hI hok (by omega) (by omega) (lv_sub hl [0, 1, 2, 3, 4, 5] rfl)
        · refine lv_aload_n hx hb d_Mo_second_20 rfl (lv_at hl 0 rfl) ?_
          refine sv_getr (C := "StoryMachineModel") (T := T_Mo) (N := 51) hx hb hts in_Mo hown hK hI 0 kM_0 rfl 39 (by decide) (hts _ mw_1102) rfl d_Mo_second_21 ?_
          refine lv_iload hx hb d_Mo_second_24 (lv_at hl 5 rfl) ?_
          refine sv_ialdr hx hb hK hI 18 kM_18 (by omega) (by omega) d_Mo_second_26 (fun z620 hz620a hz620b => ?_)
          refine lv_iload_n hx hb d_Mo_second_27 rfl (lv_at hl 2 rfl) ?_
          refine sn_icmp_ne (tgt := 35) hx hb d_Mo_second_28 (by decide) (fun b621 => ?_) (fun b621 => ?_)
          · refine sn_iconst hx hb d_Mo_second_35 (by decide) (fun z622 hz622 => ?_)
            refine lv_istore (lv' := [(4, .int z622), (0, .ref (a 0)), (1, .int x1), (2, .int x2), (3, .int x3), (5, .int v6u_5)]) hx hb d_Mo_second_36 hl (by decide) rfl (fun ls hl => ?_)
            refine sn_iinc (k := 5) hx hb d_Mo_second_38 hl rfl (by decide) (by decide) (by omega) (by omega) (fun ls z623 hz623 hl => ?_)
            have hl : lv_has ls 6 [(5, .int z623), (4, .int z622), (0, .ref (a 0)), (1, .int x1), (2, .int x2), (3, .int x3)] := hl
            refine lv_goto (tgt := 6) hx hb d_Mo_second_41 (by decide) ?_
            exact ih _ _ _ z622 z623 hI hok (by omega) (by omega) (by omega) (by omega) (lv_sub hl [2, 3, 4, 5, 1, 0] rfl) (by omega)
          · exact j31u _ _ _  hI hok (by omega) (by omega) (lv_sub hl [0, 1, 2, 3, 4, 5] rfl)
  refine sn_iconst hx hb d_Mo_second_0 (by decide) (fun z624 hz624 => ?_)
  refine lv_istore (lv' := [(4, .int z624), (0, .ref (a 0)), (1, .int x1), (2, .int x2), (3, .int x3)]) hx hb d_Mo_second_1 hl (by decide) rfl (fun ls hl => ?_)
  refine sn_iconst hx hb d_Mo_second_3 (by decide) (fun z625 hz625 => ?_)
  refine lv_istore (lv' := [(5, .int z625), (4, .int z624), (0, .ref (a 0)), (1, .int x1), (2, .int x2), (3, .int x3)]) hx hb d_Mo_second_4 hl (by decide) rfl (fun ls hl => ?_)
  exact j6u 4 _ _ _ z624 z625 hI hok (by omega) (by omega) (by omega) (by omega) (lv_sub hl [2, 3, 4, 5, 1, 0] rfl) (by omega)
