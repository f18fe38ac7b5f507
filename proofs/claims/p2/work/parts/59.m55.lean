abbrev q_Mo_first (dC : Nat → ClassId) (dI : Nat → Nat → Nat) (cI cJ : ClassId) (a : Nat → Nat) (th tr dp zi co sh lt ts : Int) (mf : Nat → Int32) (x1 : Int32) (x2 : Int32) : Outcome → State → Prop := fun o t => (∀ v, o = .returned v → ((∃ (tr_ dp_ zi_ sh_ : Int) (mf_ : Nat → Int32), v = none ∧ okM th tr_ dp_ zi_ co sh_ lt ts mf_ ∧ (1 ≤ tr_) ∧ (sh_ ≤ sh + 1600) ∧ sh_I (dC, dI) vcl cI cJ (gsM a th tr_ dp_ zi_ co sh_ lt ts mf_) t.heap) ∨ (v = none ∧ okM th tr dp zi co sh lt ts mf ∧ (12 ≤ x1.toInt) ∧ (x1.toInt ≤ 12) ∧ sh_I (dC, dI) vcl cI cJ (gsM a th tr dp zi co sh lt ts mf) t.heap) ∨ (∃ (dp_ zi_ sh_ : Int) (mf_ : Nat → Int32), v = none ∧ okM th tr dp_ zi_ co sh_ lt ts mf_ ∧ (tr ≤ 0) ∧ (sh_ ≤ sh + 1600) ∧ sh_I (dC, dI) vcl cI cJ (gsM a th tr dp_ zi_ co sh_ lt ts mf_) t.heap))) ∧ (∀ x, o = .threw x → (False))
def rm_Mo_first : Room := { frames := 8, cells := 0, slots := 0, locals := 174 }
set_option maxHeartbeats 4000000 in
set_option maxRecDepth 100000 in
theorem c_Mo_first (l : Launch) (hfl : l.flags = pinnedFlags ++ [noTraceFlag]) (dC : Nat → ClassId) (dI : Nat → Nat → Nat) (cI cJ : ClassId) (a : Nat → Nat) (sz : Nat) (th tr dp zi co sh lt ts : Int) (mf : Nat → Int32) (x1 : Int32) (x2 : Int32) (hok : okM th tr dp zi co sh lt ts mf) (hp0 : 0 ≤ x1.toInt) (hp1 : x1.toInt ≤ 15) (hp2 : 0 ≤ x2.toInt) (hp3 : x2.toInt ≤ 65535) (hp4 : sh ≤ 1999998400) : tz_Met l ⟨"StoryMachineModel", "first", "(II)V"⟩ tw_tbl rm_Mo_first (tzP (dC, dI) vcl cI cJ (gsM a th tr dp zi co sh lt ts mf) a (adM a) [.ref (a 0), .int x1, .int x2] sz) (tq_Q (q_Mo_first dC dI cI cJ a th tr dp zi co sh lt ts mf x1 x2) (ga (adM a) sz)) 0 0 0 0 (ga (adM a) sz) := by
  refine tz_ofW (cc := prog_13_method_50_code) (maxL := 3) (ret := none) (by decide) (tx_isM mw_1389) ?_
  intro p e s m args below meth c s₁ B hml hv
  obtain ⟨rfl, hsz, hI0, hK, hst0⟩ := hv
  have hx := B.exec
  have hb := B.bytes
  have hr := B.returns
  have hts := atoms_spec (ws := tw_tbl) B.pre
  have hown : s.vm.findClass "StoryMachineModel" = some m.cls := findClass_of_methodNamed B.named
  have hlocks := B.notSynchronized
  subst hsz
  have hst := fun (H : Heap) (locs : List Loc) (hS : va_S (ga (adM a) s.heap.size) s.heap H locs) (U : State) (hU : U.heap = H) (hW : s.WarmedH U.vm) => zS_all adM_map hI0 hst0 hS hU hW
  have hAC : ∀ q ∈ adM a, ga (adM a) s.heap.size q := fun q h => Or.inl h
  have hA0 : ∀ q, s.heap.size ≤ q → ga (adM a) s.heap.size q := fun q h => Or.inr h
  have hI : sI (dC, dI) vcl cI cJ (gsM a th tr dp zi co sh lt ts mf) (ga (adM a) s.heap.size) s.heap s.heap [] := ⟨hI0, va_S.rf⟩
  clear hI0 hst0
  have hl := lv_entry ([.ref (a 0), .int x1, .int x2]) (n := 3) (Nat.le_of_ble_eq_true rfl)
  rw [lg_entry_eq]
  generalize (lg_sl ([.ref (a 0), .int x1, .int x2]) ++ List.replicate (3 - (lg_sl ([.ref (a 0), .int x1, .int x2])).length) Slot.unset).toArray = ls at hl ⊢
  have hl : lv_has ls 3 [(0, .ref (a 0)), (1, .int x1), (2, .int x2)] := hl
  generalize hZ : tz_MQ below (tq_Q (q_Mo_first dC dI cI cJ a th tr dp zi co sh lt ts mf x1 x2) (ga (adM a) s.heap.size)) ([.ref (a 0), .int x1, .int x2] : List Value).toArray s 0 0 0 0 (ga (adM a) s.heap.size) = Z
  obtain ⟨A, hAe⟩ : ∃ A, A = ga (adM a) s.heap.size := ⟨_, rfl⟩
  rw [← hAe] at hst hAC hA0 hI hZ
  refine sv_start hI (fun H locs hI => ?_)
  obtain ⟨⟨o1, o2⟩, ⟨o3, o4⟩, ⟨o5, o6⟩, ⟨o7, o8⟩, ⟨o9, o10⟩, ⟨o11, o12⟩, ⟨o13, o14⟩, ⟨o15, o16⟩, -⟩ := id hok
  have gx1 := sn_rng x1
  have gx2 := sn_rng x2
  refine lv_iload_n hx hb d_Mo_first_0 rfl (lv_at hl 1 rfl) ?_
  refine sn_if_ne (tgt := 20) hx hb d_Mo_first_1 (by decide) (fun b17 => ?_) (fun b17 => ?_)
  · refine lv_iload_n hx hb d_Mo_first_20 rfl (lv_at hl 1 rfl) ?_
    refine sn_iconst hx hb d_Mo_first_21 (by decide) (fun z18 hz18 => ?_)
    refine sn_icmp_ge (tgt := 40) hx hb d_Mo_first_22 (by decide) (fun b19 => ?_) (fun b19 => ?_)
    · refine lv_iload_n hx hb d_Mo_first_40 rfl (lv_at hl 1 rfl) ?_
      refine sn_iconst hx hb d_Mo_first_41 (by decide) (fun z20 hz20 => ?_)
      refine sn_icmp_ne (tgt := 58) hx hb d_Mo_first_42 (by decide) (fun b21 => ?_) (fun b21 => ?_)
      · refine lv_iload_n hx hb d_Mo_first_58 rfl (lv_at hl 1 rfl) ?_
        refine sn_iconst hx hb d_Mo_first_59 (by decide) (fun z22 hz22 => ?_)
        refine sn_icmp_ne (tgt := 75) hx hb d_Mo_first_60 (by decide) (fun b23 => ?_) (fun b23 => ?_)
        · refine lv_iload_n hx hb d_Mo_first_75 rfl (lv_at hl 1 rfl) ?_
          refine sn_bipush hx hb d_Mo_first_76 (by decide) (fun z24 hz24 => ?_)
          refine sn_icmp_ge (tgt := 100) hx hb d_Mo_first_78 (by decide) (fun b25 => ?_) (fun b25 => ?_)
          · refine lv_iload_n hx hb d_Mo_first_100 rfl (lv_at hl 1 rfl) ?_
            refine sn_bipush hx hb d_Mo_first_101 (by decide) (fun z26 hz26 => ?_)
            refine sn_icmp_ne (tgt := 115) hx hb d_Mo_first_103 (by decide) (fun b27 => ?_) (fun b27 => ?_)
            · refine lv_iload_n hx hb d_Mo_first_115 rfl (lv_at hl 1 rfl) ?_
              refine sn_bipush hx hb d_Mo_first_116 (by decide) (fun z28 hz28 => ?_)
              refine sn_icmp_ne (tgt := 129) hx hb d_Mo_first_118 (by decide) (fun b29 => ?_) (fun b29 => ?_)
              · refine lv_iload_n hx hb d_Mo_first_129 rfl (lv_at hl 1 rfl) ?_
                refine sn_bipush hx hb d_Mo_first_130 (by decide) (fun z30 hz30 => ?_)
                refine sn_icmp_ne (tgt := 143) hx hb d_Mo_first_132 (by decide) (fun b31 => ?_) (fun b31 => ?_)
                · refine lv_iload_n hx hb d_Mo_first_143 rfl (lv_at hl 1 rfl) ?_
                  refine sn_bipush hx hb d_Mo_first_144 (by decide) (fun z32 hz32 => ?_)
                  refine sn_icmp_ne (tgt := 157) hx hb d_Mo_first_146 (by decide) (fun b33 => ?_) (fun b33 => ?_)
                  · refine lv_iload_n hx hb d_Mo_first_157 rfl (lv_at hl 1 rfl) ?_
                    refine sn_bipush hx hb d_Mo_first_158 (by decide) (fun z34 hz34 => ?_)
                    refine sn_icmp_ne (tgt := 181) hx hb d_Mo_first_160 (by decide) (fun b35 => ?_) (fun b35 => ?_)
                    · refine lv_iload_n hx hb d_Mo_first_181 rfl (lv_at hl 1 rfl) ?_
                      refine sn_bipush hx hb d_Mo_first_182 (by decide) (fun z36 hz36 => ?_)
                      refine sn_icmp_ne (tgt := 198) hx hb d_Mo_first_184 (by decide) (fun b37 => ?_) (fun b37 => ?_)
                      · refine lv_aload_n hx hb d_Mo_first_198 rfl (lv_at hl 0 rfl) ?_
                        refine lv_iload_n hx hb d_Mo_first_199 rfl (lv_at hl 1 rfl) ?_
                        refine sn_bipush hx hb d_Mo_first_200 (by decide) (fun z38 hz38 => ?_)
                        refine sn_icmp_ne (tgt := 213) hx hb d_Mo_first_202 (by decide) (fun b39 => ?_) (fun b39 => ?_)
                        · refine sn_ldc (n := 65535) hx hb hown (hts _ mw_1301) d_Mo_first_213 (by decide) (fun z40 hz40 => ?_)
                          refine lv_iload_n hx hb d_Mo_first_215 rfl (lv_at hl 2 rfl) ?_
                          refine sn_isub hx hb d_Mo_first_216 (by omega) (by omega) (fun z41 hz41 => ?_)
                          refine tz_call (A1 := ga (adM a) H.size) (tz_runV (C := "StoryMachineModel") (As := [.int z41]) (rest := []) ⟨hx, hb, hml, hown, hts⟩ (c_Mo_giveIf l hfl dC dI cI cJ a H.size th tr dp zi co sh lt ts mf z41 hok) (tx_cb (n := 1) hts rfl rfl ⟨Nat.le_of_ble_eq_true rfl, Nat.le_of_ble_eq_true rfl⟩ (tx_code.of (hts _ mw_1397)) (hts _ mw_12) (by decide +kernel) (hts _ mw_1394)) (hts _ mw_1396) (hts _ ms_Mo_giveIf) ⟨tz_blind, sv_recv (q0 := 0) hts in_Mo hK hI kM_0 rfl, fun U hU hW => ⟨rfl, by rw [hU], by rw [hU]; exact hI.1, va_K.moved hW.alike hK, hst _ _ hI.2 U hU hW⟩⟩ rfl rfl hl.1 rfl (lv_room (Nat.le_of_ble_eq_true rfl)) d_Mo_first_217 ⟨Nat.le_of_ble_eq_true rfl, Nat.le_of_ble_eq_true rfl⟩) hI.2 (fun q _ h => ga_sub hAC hA0 hI.2 q h) (ga_sub hAC hA0 hI.2) (fun v t H1 locs1 ht hWt hpost _ _ hS => ?_) (fun x t H1 locs1 ht hWt hpost _ _ hS => (hpost.2 x rfl).elim)
                          rcases hpost.1 _ rfl with ⟨t_tr42, hv, c43, c43_0, hI1⟩ | ⟨t_zi44, f_mf45, hv, c46, c46_0, hI1⟩
                          · cases hv
                            have hI : sI (dC, dI) vcl cI cJ (gsM a th t_tr42 dp zi co sh lt ts mf) A s.heap H1 locs1 := ⟨by rw [← ht]; exact hI1, hS⟩
                            obtain ⟨-, ⟨o47, o48⟩, -, -, -, -, -, -, -⟩ := id c43
                            clear hpost hI1 hS ht hWt
                            revert hI; generalize H1 = H; generalize locs1 = locs; intro hI
                            subst hZ
                            exact tz_ret (W.vret hx hb hr (fun t ht hW => ⟨⟨fun v9 hv9 => by cases hv9; exact (Or.inl ⟨t_tr42, dp, zi, sh, mf, rfl, c43, by omega, by omega, by rw [ht]; exact hI.1⟩), fun x9 hx9 => (by cases hx9)⟩, hI.2.F ht⟩) hI.2.2.2 d_Mo_first_220)
                          · cases hv
                            have hI : sI (dC, dI) vcl cI cJ (gsM a th tr dp t_zi44 co sh lt ts f_mf45) A s.heap H1 locs1 := ⟨by rw [← ht]; exact hI1, hS⟩
                            obtain ⟨-, -, -, ⟨o49, o50⟩, -, -, -, -, -⟩ := id c46
                            clear hpost hI1 hS ht hWt
                            revert hI; generalize H1 = H; generalize locs1 = locs; intro hI
                            subst hZ
                            exact tz_ret (W.vret hx hb hr (fun t ht hW => ⟨⟨fun v9 hv9 => by cases hv9; exact (Or.inr (Or.inr (⟨dp, t_zi44, sh, f_mf45, rfl, c46, by omega, by omega, by rw [ht]; exact hI.1⟩))), fun x9 hx9 => (by cases hx9)⟩, hI.2.F ht⟩) hI.2.2.2 d_Mo_first_220)
                        · refine lv_aload_n hx hb d_Mo_first_205 rfl (lv_at hl 0 rfl) ?_
                          refine lv_iload_n hx hb d_Mo_first_206 rfl (lv_at hl 2 rfl) ?_
                          refine tz_call (A1 := ga (adM a) H.size) (tz_runV (C := "StoryMachineModel") (As := [.int x2]) (rest := [.ref (a 0)]) ⟨hx, hb, hml, hown, hts⟩ (c_Mo_peekVariable l hfl dC dI cI cJ a H.size th tr dp zi co sh lt ts mf x2 hok) (tx_cb (n := 1) hts rfl rfl ⟨Nat.le_of_ble_eq_true rfl, Nat.le_of_ble_eq_true rfl⟩ (tx_code.of (hts _ mw_1264)) (hts _ mw_12) (by decide +kernel) (hts _ mw_1261)) (hts _ mw_1263) (hts _ ms_Mo_peekVariable) ⟨tz_blind, sv_recv (q0 := 0) hts in_Mo hK hI kM_0 rfl, fun U hU hW => ⟨rfl, by rw [hU], by rw [hU]; exact hI.1, va_K.moved hW.alike hK, hst _ _ hI.2 U hU hW⟩⟩ rfl rfl hl.1 rfl (lv_room (Nat.le_of_ble_eq_true rfl)) d_Mo_first_207 ⟨Nat.le_of_ble_eq_true rfl, Nat.le_of_ble_eq_true rfl⟩) hI.2 (fun q _ h => ga_sub hAC hA0 hI.2 q h) (ga_sub hAC hA0 hI.2) (fun v t H1 locs1 ht hWt hpost _ _ hS => ?_) (fun x t H1 locs1 ht hWt hpost _ _ hS => (hpost.2 x rfl).elim)
                          rcases hpost.1 _ rfl with ⟨z51, t_tr52, hv, c53, c53_0, c53_1, c53_2, hI1⟩ | ⟨z54, hv, c55, c55_0, c55_1, c55_2, c55_3, hI1⟩
                          · cases hv
                            have hI : sI (dC, dI) vcl cI cJ (gsM a th t_tr52 dp zi co sh lt ts mf) A s.heap H1 locs1 := ⟨by rw [← ht]; exact hI1, hS⟩
                            obtain ⟨-, ⟨o56, o57⟩, -, -, -, -, -, -, -⟩ := id c53
                            clear hpost hI1 hS ht hWt
                            revert hI; generalize H1 = H; generalize locs1 = locs; intro hI
                            refine lv_goto (tgt := 217) hx hb d_Mo_first_210 (by decide) ?_
                            refine tz_call (A1 := ga (adM a) H.size) (tz_runV (C := "StoryMachineModel") (As := [.int z51]) (rest := []) ⟨hx, hb, hml, hown, hts⟩ (c_Mo_giveIf l hfl dC dI cI cJ a H.size th t_tr52 dp zi co sh lt ts mf z51 c53) (tx_cb (n := 1) hts rfl rfl ⟨Nat.le_of_ble_eq_true rfl, Nat.le_of_ble_eq_true rfl⟩ (tx_code.of (hts _ mw_1397)) (hts _ mw_12) (by decide +kernel) (hts _ mw_1394)) (hts _ mw_1396) (hts _ ms_Mo_giveIf) ⟨tz_blind, sv_recv (q0 := 0) hts in_Mo hK hI kM_0 rfl, fun U hU hW => ⟨rfl, by rw [hU], by rw [hU]; exact hI.1, va_K.moved hW.alike hK, hst _ _ hI.2 U hU hW⟩⟩ rfl rfl hl.1 rfl (lv_room (Nat.le_of_ble_eq_true rfl)) d_Mo_first_217 ⟨Nat.le_of_ble_eq_true rfl, Nat.le_of_ble_eq_true rfl⟩) hI.2 (fun q _ h => ga_sub hAC hA0 hI.2 q h) (ga_sub hAC hA0 hI.2) (fun v t H1 locs1 ht hWt hpost _ _ hS => ?_) (fun x t H1 locs1 ht hWt hpost _ _ hS => (hpost.2 x rfl).elim)
                            rcases hpost.1 _ rfl with ⟨t_tr58, hv, c59, c59_0, hI1⟩ | ⟨t_zi60, f_mf61, hv, c62, c62_0, hI1⟩
                            · cases hv
                              have hI : sI (dC, dI) vcl cI cJ (gsM a th t_tr58 dp zi co sh lt ts mf) A s.heap H1 locs1 := ⟨by rw [← ht]; exact hI1, hS⟩
                              obtain ⟨-, ⟨o63, o64⟩, -, -, -, -, -, -, -⟩ := id c59
                              clear hpost hI1 hS ht hWt
                              revert hI; generalize H1 = H; generalize locs1 = locs; intro hI
                              subst hZ
                              exact tz_ret (W.vret hx hb hr (fun t ht hW => ⟨⟨fun v9 hv9 => by cases hv9; exact (Or.inl ⟨t_tr58, dp, zi, sh, mf, rfl, c59, by omega, by omega, by rw [ht]; exact hI.1⟩), fun x9 hx9 => (by cases hx9)⟩, hI.2.F ht⟩) hI.2.2.2 d_Mo_first_220)
                            · omega
                          · cases hv
                            have hI : sI (dC, dI) vcl cI cJ (gsM a th tr dp zi co sh lt ts mf) A s.heap H1 locs1 := ⟨by rw [← ht]; exact hI1, hS⟩
                            clear hpost hI1 hS ht hWt
                            revert hI; generalize H1 = H; generalize locs1 = locs; intro hI
                            refine lv_goto (tgt := 217) hx hb d_Mo_first_210 (by decide) ?_
                            refine tz_call (A1 := ga (adM a) H.size) (tz_runV (C := "StoryMachineModel") (As := [.int z54]) (rest := []) ⟨hx, hb, hml, hown, hts⟩ (c_Mo_giveIf l hfl dC dI cI cJ a H.size th tr dp zi co sh lt ts mf z54 c55) (tx_cb (n := 1) hts rfl rfl ⟨Nat.le_of_ble_eq_true rfl, Nat.le_of_ble_eq_true rfl⟩ (tx_code.of (hts _ mw_1397)) (hts _ mw_12) (by decide +kernel) (hts _ mw_1394)) (hts _ mw_1396) (hts _ ms_Mo_giveIf) ⟨tz_blind, sv_recv (q0 := 0) hts in_Mo hK hI kM_0 rfl, fun U hU hW => ⟨rfl, by rw [hU], by rw [hU]; exact hI.1, va_K.moved hW.alike hK, hst _ _ hI.2 U hU hW⟩⟩ rfl rfl hl.1 rfl (lv_room (Nat.le_of_ble_eq_true rfl)) d_Mo_first_217 ⟨Nat.le_of_ble_eq_true rfl, Nat.le_of_ble_eq_true rfl⟩) hI.2 (fun q _ h => ga_sub hAC hA0 hI.2 q h) (ga_sub hAC hA0 hI.2) (fun v t H1 locs1 ht hWt hpost _ _ hS => ?_) (fun x t H1 locs1 ht hWt hpost _ _ hS => (hpost.2 x rfl).elim)
                            rcases hpost.1 _ rfl with ⟨t_tr65, hv, c66, c66_0, hI1⟩ | ⟨t_zi67, f_mf68, hv, c69, c69_0, hI1⟩
                            · cases hv
                              have hI : sI (dC, dI) vcl cI cJ (gsM a th t_tr65 dp zi co sh lt ts mf) A s.heap H1 locs1 := ⟨by rw [← ht]; exact hI1, hS⟩
                              obtain ⟨-, ⟨o70, o71⟩, -, -, -, -, -, -, -⟩ := id c66
                              clear hpost hI1 hS ht hWt
                              revert hI; generalize H1 = H; generalize locs1 = locs; intro hI
                              subst hZ
                              exact tz_ret (W.vret hx hb hr (fun t ht hW => ⟨⟨fun v9 hv9 => by cases hv9; exact (Or.inl ⟨t_tr65, dp, zi, sh, mf, rfl, c66, by omega, by omega, by rw [ht]; exact hI.1⟩), fun x9 hx9 => (by cases hx9)⟩, hI.2.F ht⟩) hI.2.2.2 d_Mo_first_220)
                            · cases hv
                              have hI : sI (dC, dI) vcl cI cJ (gsM a th tr dp t_zi67 co sh lt ts f_mf68) A s.heap H1 locs1 := ⟨by rw [← ht]; exact hI1, hS⟩
                              obtain ⟨-, -, -, ⟨o72, o73⟩, -, -, -, -, -⟩ := id c69
                              clear hpost hI1 hS ht hWt
                              revert hI; generalize H1 = H; generalize locs1 = locs; intro hI
                              subst hZ
                              exact tz_ret (W.vret hx hb hr (fun t ht hW => ⟨⟨fun v9 hv9 => by cases hv9; exact (Or.inr (Or.inr (⟨dp, t_zi67, sh, f_mf68, rfl, c69, by omega, by omega, by rw [ht]; exact hI.1⟩))), fun x9 hx9 => (by cases hx9)⟩, hI.2.F ht⟩) hI.2.2.2 d_Mo_first_220)
                      · refine lv_aload_n hx hb d_Mo_first_187 rfl (lv_at hl 0 rfl) ?_
                        refine sn_iconst hx hb d_Mo_first_188 (by decide) (fun z74 hz74 => ?_)
                        refine lv_iload_n hx hb d_Mo_first_189 rfl (lv_at hl 2 rfl) ?_
                        refine sn_imulL (k := 2) hx hb d_Mo_first_190 (by omega) (by omega) (by omega) (fun z75 hz75 => ?_)
                        refine tz_call (A1 := ga (adM a) H.size) (tz_runV (C := "StoryMachineModel") (As := [.int z75]) (rest := []) ⟨hx, hb, hml, hown, hts⟩ (c_Mo_showText l hfl dC dI cI cJ a H.size th tr dp zi co sh lt ts mf z75 hok (by omega)) (tx_cb (n := 1) hts rfl rfl ⟨Nat.le_of_ble_eq_true rfl, Nat.le_of_ble_eq_true rfl⟩ (tx_code.of (hts _ mw_1401)) (hts _ mw_12) (by decide +kernel) (hts _ mw_1398)) (hts _ mw_1400) (hts _ ms_Mo_showText) ⟨tz_blind, sv_recv (q0 := 0) hts in_Mo hK hI kM_0 rfl, fun U hU hW => ⟨rfl, by rw [hU], by rw [hU]; exact hI.1, va_K.moved hW.alike hK, hst _ _ hI.2 U hU hW⟩⟩ rfl rfl hl.1 rfl (lv_room (Nat.le_of_ble_eq_true rfl)) d_Mo_first_191 ⟨Nat.le_of_ble_eq_true rfl, Nat.le_of_ble_eq_true rfl⟩) hI.2 (fun q _ h => ga_sub hAC hA0 hI.2 q h) (ga_sub hAC hA0 hI.2) (fun v t H1 locs1 ht hWt hpost _ _ hS => ?_) (fun x t H1 locs1 ht hWt hpost _ _ hS => (hpost.2 x rfl).elim)
                        rcases hpost.1 _ rfl with ⟨z76, t_tr77, t_sh78, hv, c79, c79_0, c79_1, c79_2, c79_3, hI1⟩ | ⟨z80, t_sh81, hv, c82, c82_0, c82_1, c82_2, c82_3, c82_4, c82_5, hI1⟩
                        · cases hv
                          have hI : sI (dC, dI) vcl cI cJ (gsM a th t_tr77 dp zi co t_sh78 lt ts mf) A s.heap H1 locs1 := ⟨by rw [← ht]; exact hI1, hS⟩
                          obtain ⟨-, ⟨o83, o84⟩, -, -, -, ⟨o85, o86⟩, -, -, -⟩ := id c79
                          clear hpost hI1 hS ht hWt
                          revert hI; generalize H1 = H; generalize locs1 = locs; intro hI
                          refine lv_pop hx hb d_Mo_first_194 rfl ?_
                          refine lv_goto (tgt := 220) hx hb d_Mo_first_195 (by decide) ?_
                          subst hZ
                          exact tz_ret (W.vret hx hb hr (fun t ht hW => ⟨⟨fun v9 hv9 => by cases hv9; exact (Or.inl ⟨t_tr77, dp, zi, t_sh78, mf, rfl, c79, by omega, by omega, by rw [ht]; exact hI.1⟩), fun x9 hx9 => (by cases hx9)⟩, hI.2.F ht⟩) hI.2.2.2 d_Mo_first_220)
                        · cases hv
                          have hI : sI (dC, dI) vcl cI cJ (gsM a th tr dp zi co t_sh81 lt ts mf) A s.heap H1 locs1 := ⟨by rw [← ht]; exact hI1, hS⟩
                          obtain ⟨-, -, -, -, -, ⟨o87, o88⟩, -, -, -⟩ := id c82
                          clear hpost hI1 hS ht hWt
                          revert hI; generalize H1 = H; generalize locs1 = locs; intro hI
                          refine lv_pop hx hb d_Mo_first_194 rfl ?_
                          refine lv_goto (tgt := 220) hx hb d_Mo_first_195 (by decide) ?_
                          subst hZ
                          exact tz_ret (W.vret hx hb hr (fun t ht hW => ⟨⟨fun v9 hv9 => by cases hv9; exact (Or.inr (Or.inr (⟨dp, zi, t_sh81, mf, rfl, c82, by omega, by omega, by rw [ht]; exact hI.1⟩))), fun x9 hx9 => (by cases hx9)⟩, hI.2.F ht⟩) hI.2.2.2 d_Mo_first_220)
                    · refine lv_aload_n hx hb d_Mo_first_163 rfl (lv_at hl 0 rfl) ?_
                      refine lv_aload_n hx hb d_Mo_first_164 rfl (lv_at hl 0 rfl) ?_
                      refine sv_get (C := "StoryMachineModel") (T := T_Mo) (N := 51) hx hb hts in_Mo hown hK hI 0 kM_0 rfl 43 (by decide) (hts _ mw_1106) rfl d_Mo_first_165 (fun z89 hz89a hz89b => ?_)
                      refine lv_iload_n hx hb d_Mo_first_168 rfl (lv_at hl 2 rfl) ?_
                      refine tz_call (A1 := ga (adM a) H.size) (tz_runS (As := [.int x2]) (rest := [.int z89, .ref (a 0)]) ⟨hx, hb, hml, hown, hts⟩ (c_Mo_signed l hfl dC dI cI cJ a H.size th tr dp zi co sh lt ts mf x2 hok) (tx_cb (n := 1) hts rfl rfl ⟨Nat.le_of_ble_eq_true rfl, Nat.le_of_ble_eq_true rfl⟩ (tx_code.of (hts _ mw_1316)) (hts _ mw_12) (by decide +kernel) (hts _ mw_1314)) (hts _ mw_1315) ⟨tz_blind, fun U hU hW => ⟨rfl, by rw [hU], by rw [hU]; exact hI.1, va_K.moved hW.alike hK, hst _ _ hI.2 U hU hW⟩⟩ rfl rfl hl.1 rfl (lv_room (Nat.le_of_ble_eq_true rfl)) d_Mo_first_169 ⟨Nat.le_of_ble_eq_true rfl, Nat.le_of_ble_eq_true rfl⟩) hI.2 (fun q _ h => ga_sub hAC hA0 hI.2 q h) (ga_sub hAC hA0 hI.2) (fun v t H1 locs1 ht hWt hpost _ _ hS => ?_) (fun x t H1 locs1 ht hWt hpost _ _ hS => (hpost.2 x rfl).elim)
                      rcases hpost.1 _ rfl with ⟨z90, hv, c91, c91_0, c91_1, c91_2, hI1⟩
                      cases hv
                      have hI : sI (dC, dI) vcl cI cJ (gsM a th tr dp zi co sh lt ts mf) A s.heap H1 locs1 := ⟨by rw [← ht]; exact hI1, hS⟩
                      clear hpost hI1 hS ht hWt
                      revert hI; generalize H1 = H; generalize locs1 = locs; intro hI
                      refine sn_iaddT hx hb d_Mo_first_172 (fun z92 hz92a hz92b => ?_)
                      refine sn_iconst hx hb d_Mo_first_173 (by decide) (fun z93 hz93 => ?_)
                      refine sn_isubT hx hb d_Mo_first_174 (fun z94 hz94a hz94b => ?_)
                      refine sv_put (C := "StoryMachineModel") (T := T_Mo) (N := 51) (ty := .int) hx hb hts in_Mo t_Mo tk_Mo nm_Mo hown hK (sh_in adM_map hAC) hI 0 kM_0 rfl 28 (by decide) (hts _ mw_1091) rfl (by decide +kernel) rfl rfl (Nat.le_of_ble_eq_true rfl) (by omega) (by omega) pM_0_28 d_Mo_first_175 (fun H locs hI => ?_)
                      refine lv_goto (tgt := 220) hx hb d_Mo_first_178 (by decide) ?_
                      subst hZ
                      exact tz_ret (W.vret hx hb hr (fun t ht hW => ⟨⟨fun v9 hv9 => by cases hv9; exact (Or.inr (Or.inl ⟨rfl, c91, by omega, by omega, by rw [ht]; exact hI.1⟩)), fun x9 hx9 => (by cases hx9)⟩, hI.2.F ht⟩) hI.2.2.2 d_Mo_first_220)
                  · refine lv_aload_n hx hb d_Mo_first_149 rfl (lv_at hl 0 rfl) ?_
                    refine lv_iload_n hx hb d_Mo_first_150 rfl (lv_at hl 2 rfl) ?_
                    refine tz_call (A1 := ga (adM a) H.size) (tz_runV (C := "StoryMachineModel") (As := [.int x2]) (rest := []) ⟨hx, hb, hml, hown, hts⟩ (c_Mo_leave l hfl dC dI cI cJ a H.size th tr dp zi co sh lt ts mf x2 hok) (tx_cb (n := 1) hts rfl rfl ⟨Nat.le_of_ble_eq_true rfl, Nat.le_of_ble_eq_true rfl⟩ (tx_code.of (hts _ mw_1292)) (hts _ mw_12) (by decide +kernel) (hts _ mw_1289)) (hts _ mw_1291) (hts _ ms_Mo_leave) ⟨tz_blind, sv_recv (q0 := 0) hts in_Mo hK hI kM_0 rfl, fun U hU hW => ⟨rfl, by rw [hU], by rw [hU]; exact hI.1, va_K.moved hW.alike hK, hst _ _ hI.2 U hU hW⟩⟩ rfl rfl hl.1 rfl (lv_room (Nat.le_of_ble_eq_true rfl)) d_Mo_first_151 ⟨Nat.le_of_ble_eq_true rfl, Nat.le_of_ble_eq_true rfl⟩) hI.2 (fun q _ h => ga_sub hAC hA0 hI.2 q h) (ga_sub hAC hA0 hI.2) (fun v t H1 locs1 ht hWt hpost _ _ hS => ?_) (fun x t H1 locs1 ht hWt hpost _ _ hS => (hpost.2 x rfl).elim)
                    rcases hpost.1 _ rfl with ⟨t_tr95, t_dp96, t_zi97, hv, c98, c98_0, hI1⟩ | ⟨t_dp99, t_zi100, f_mf101, hv, c102, c102_0, c102_1, c102_2, hI1⟩
                    · cases hv
                      have hI : sI (dC, dI) vcl cI cJ (gsM a th t_tr95 t_dp96 t_zi97 co sh lt ts mf) A s.heap H1 locs1 := ⟨by rw [← ht]; exact hI1, hS⟩
                      obtain ⟨-, ⟨o103, o104⟩, ⟨o105, o106⟩, ⟨o107, o108⟩, -, -, -, -, -⟩ := id c98
                      clear hpost hI1 hS ht hWt
                      revert hI; generalize H1 = H; generalize locs1 = locs; intro hI
                      refine lv_goto (tgt := 220) hx hb d_Mo_first_154 (by decide) ?_
                      subst hZ
                      exact tz_ret (W.vret hx hb hr (fun t ht hW => ⟨⟨fun v9 hv9 => by cases hv9; exact (Or.inl ⟨t_tr95, t_dp96, t_zi97, sh, mf, rfl, c98, by omega, by omega, by rw [ht]; exact hI.1⟩), fun x9 hx9 => (by cases hx9)⟩, hI.2.F ht⟩) hI.2.2.2 d_Mo_first_220)
                    · cases hv
                      have hI : sI (dC, dI) vcl cI cJ (gsM a th tr t_dp99 t_zi100 co sh lt ts f_mf101) A s.heap H1 locs1 := ⟨by rw [← ht]; exact hI1, hS⟩
                      obtain ⟨-, -, ⟨o109, o110⟩, ⟨o111, o112⟩, -, -, -, -, -⟩ := id c102
                      clear hpost hI1 hS ht hWt
                      revert hI; generalize H1 = H; generalize locs1 = locs; intro hI
                      refine lv_goto (tgt := 220) hx hb d_Mo_first_154 (by decide) ?_
                      subst hZ
                      exact tz_ret (W.vret hx hb hr (fun t ht hW => ⟨⟨fun v9 hv9 => by cases hv9; exact (Or.inr (Or.inr (⟨t_dp99, t_zi100, sh, f_mf101, rfl, c102, by omega, by omega, by rw [ht]; exact hI.1⟩))), fun x9 hx9 => (by cases hx9)⟩, hI.2.F ht⟩) hI.2.2.2 d_Mo_first_220)
                · refine lv_aload_n hx hb d_Mo_first_135 rfl (lv_at hl 0 rfl) ?_
                  refine lv_iload_n hx hb d_Mo_first_136 rfl (lv_at hl 2 rfl) ?_
                  refine tz_call (A1 := ga (adM a) H.size) (tz_runV (C := "StoryMachineModel") (As := [.int x2]) (rest := []) ⟨hx, hb, hml, hown, hts⟩ (c_Mo_showName l hfl dC dI cI cJ a H.size th tr dp zi co sh lt ts mf x2 hok (by omega)) (tx_cb (n := 1) hts rfl rfl ⟨Nat.le_of_ble_eq_true rfl, Nat.le_of_ble_eq_true rfl⟩ (tx_code.of (hts _ mw_1417)) (hts _ mw_12) (by decide +kernel) (hts _ mw_1414)) (hts _ mw_1416) (hts _ ms_Mo_showName) ⟨tz_blind, sv_recv (q0 := 0) hts in_Mo hK hI kM_0 rfl, fun U hU hW => ⟨rfl, by rw [hU], by rw [hU]; exact hI.1, va_K.moved hW.alike hK, hst _ _ hI.2 U hU hW⟩⟩ rfl rfl hl.1 rfl (lv_room (Nat.le_of_ble_eq_true rfl)) d_Mo_first_137 ⟨Nat.le_of_ble_eq_true rfl, Nat.le_of_ble_eq_true rfl⟩) hI.2 (fun q _ h => ga_sub hAC hA0 hI.2 q h) (ga_sub hAC hA0 hI.2) (fun v t H1 locs1 ht hWt hpost _ _ hS => ?_) (fun x t H1 locs1 ht hWt hpost _ _ hS => (hpost.2 x rfl).elim)
                  rcases hpost.1 _ rfl with ⟨t_tr113, t_sh114, hv, c115, c115_0, c115_1, hI1⟩ | ⟨t_sh116, hv, c117, c117_0, c117_1, c117_2, c117_3, hI1⟩
                  · cases hv
                    have hI : sI (dC, dI) vcl cI cJ (gsM a th t_tr113 dp zi co t_sh114 lt ts mf) A s.heap H1 locs1 := ⟨by rw [← ht]; exact hI1, hS⟩
                    obtain ⟨-, ⟨o118, o119⟩, -, -, -, ⟨o120, o121⟩, -, -, -⟩ := id c115
                    clear hpost hI1 hS ht hWt
                    revert hI; generalize H1 = H; generalize locs1 = locs; intro hI
                    refine lv_goto (tgt := 220) hx hb d_Mo_first_140 (by decide) ?_
                    subst hZ
                    exact tz_ret (W.vret hx hb hr (fun t ht hW => ⟨⟨fun v9 hv9 => by cases hv9; exact (Or.inl ⟨t_tr113, dp, zi, t_sh114, mf, rfl, c115, by omega, by omega, by rw [ht]; exact hI.1⟩), fun x9 hx9 => (by cases hx9)⟩, hI.2.F ht⟩) hI.2.2.2 d_Mo_first_220)
                  · cases hv
                    have hI : sI (dC, dI) vcl cI cJ (gsM a th tr dp zi co t_sh116 lt ts mf) A s.heap H1 locs1 := ⟨by rw [← ht]; exact hI1, hS⟩
                    obtain ⟨-, -, -, -, -, ⟨o122, o123⟩, -, -, -⟩ := id c117
                    clear hpost hI1 hS ht hWt
                    revert hI; generalize H1 = H; generalize locs1 = locs; intro hI
                    refine lv_goto (tgt := 220) hx hb d_Mo_first_140 (by decide) ?_
                    subst hZ
                    exact tz_ret (W.vret hx hb hr (fun t ht hW => ⟨⟨fun v9 hv9 => by cases hv9; exact (Or.inr (Or.inr (⟨dp, zi, t_sh116, mf, rfl, c117, by omega, by omega, by rw [ht]; exact hI.1⟩))), fun x9 hx9 => (by cases hx9)⟩, hI.2.F ht⟩) hI.2.2.2 d_Mo_first_220)
              · refine lv_aload_n hx hb d_Mo_first_121 rfl (lv_at hl 0 rfl) ?_
                refine lv_iload_n hx hb d_Mo_first_122 rfl (lv_at hl 2 rfl) ?_
                refine tz_call (A1 := ga (adM a) H.size) (tz_runV (C := "StoryMachineModel") (As := [.int x2]) (rest := []) ⟨hx, hb, hml, hown, hts⟩ (c_Mo_take l hfl dC dI cI cJ a H.size th tr dp zi co sh lt ts mf x2 hok) (tx_cb (n := 1) hts rfl rfl ⟨Nat.le_of_ble_eq_true rfl, Nat.le_of_ble_eq_true rfl⟩ (tx_code.of (hts _ mw_1345)) (hts _ mw_12) (by decide +kernel) (hts _ mw_1342)) (hts _ mw_1344) (hts _ ms_Mo_take) ⟨tz_blind, sv_recv (q0 := 0) hts in_Mo hK hI kM_0 rfl, fun U hU hW => ⟨rfl, by rw [hU], by rw [hU]; exact hI.1, va_K.moved hW.alike hK, hst _ _ hI.2 U hU hW⟩⟩ rfl rfl hl.1 rfl (lv_room (Nat.le_of_ble_eq_true rfl)) d_Mo_first_123 ⟨Nat.le_of_ble_eq_true rfl, Nat.le_of_ble_eq_true rfl⟩) hI.2 (fun q _ h => ga_sub hAC hA0 hI.2 q h) (ga_sub hAC hA0 hI.2) (fun v t H1 locs1 ht hWt hpost _ _ hS => ?_) (fun x t H1 locs1 ht hWt hpost _ _ hS => (hpost.2 x rfl).elim)
                rcases hpost.1 _ rfl with ⟨t_tr124, f_mf125, hv, c126, c126_0, hI1⟩ | ⟨f_mf127, hv, c128, c128_0, c128_1, c128_2, hI1⟩
                · cases hv
                  have hI : sI (dC, dI) vcl cI cJ (gsM a th t_tr124 dp zi co sh lt ts f_mf125) A s.heap H1 locs1 := ⟨by rw [← ht]; exact hI1, hS⟩
                  obtain ⟨-, ⟨o129, o130⟩, -, -, -, -, -, -, -⟩ := id c126
                  clear hpost hI1 hS ht hWt
                  revert hI; generalize H1 = H; generalize locs1 = locs; intro hI
                  refine lv_goto (tgt := 220) hx hb d_Mo_first_126 (by decide) ?_
                  subst hZ
                  exact tz_ret (W.vret hx hb hr (fun t ht hW => ⟨⟨fun v9 hv9 => by cases hv9; exact (Or.inl ⟨t_tr124, dp, zi, sh, f_mf125, rfl, c126, by omega, by omega, by rw [ht]; exact hI.1⟩), fun x9 hx9 => (by cases hx9)⟩, hI.2.F ht⟩) hI.2.2.2 d_Mo_first_220)
                · cases hv
                  have hI : sI (dC, dI) vcl cI cJ (gsM a th tr dp zi co sh lt ts f_mf127) A s.heap H1 locs1 := ⟨by rw [← ht]; exact hI1, hS⟩
                  obtain ⟨-, -, -, -, -, -, -, -, -⟩ := id c128
                  clear hpost hI1 hS ht hWt
                  revert hI; generalize H1 = H; generalize locs1 = locs; intro hI
                  refine lv_goto (tgt := 220) hx hb d_Mo_first_126 (by decide) ?_
                  subst hZ
                  exact tz_ret (W.vret hx hb hr (fun t ht hW => ⟨⟨fun v9 hv9 => by cases hv9; exact (Or.inr (Or.inr (⟨dp, zi, sh, f_mf127, rfl, c128, by omega, by omega, by rw [ht]; exact hI.1⟩))), fun x9 hx9 => (by cases hx9)⟩, hI.2.F ht⟩) hI.2.2.2 d_Mo_first_220)
            · refine lv_aload_n hx hb d_Mo_first_106 rfl (lv_at hl 0 rfl) ?_
              refine lv_iload_n hx hb d_Mo_first_107 rfl (lv_at hl 2 rfl) ?_
              refine tz_call (A1 := ga (adM a) H.size) (tz_runV (C := "StoryMachineModel") (As := [.int x2]) (rest := []) ⟨hx, hb, hml, hown, hts⟩ (c_Mo_showText l hfl dC dI cI cJ a H.size th tr dp zi co sh lt ts mf x2 hok (by omega)) (tx_cb (n := 1) hts rfl rfl ⟨Nat.le_of_ble_eq_true rfl, Nat.le_of_ble_eq_true rfl⟩ (tx_code.of (hts _ mw_1401)) (hts _ mw_12) (by decide +kernel) (hts _ mw_1398)) (hts _ mw_1400) (hts _ ms_Mo_showText) ⟨tz_blind, sv_recv (q0 := 0) hts in_Mo hK hI kM_0 rfl, fun U hU hW => ⟨rfl, by rw [hU], by rw [hU]; exact hI.1, va_K.moved hW.alike hK, hst _ _ hI.2 U hU hW⟩⟩ rfl rfl hl.1 rfl (lv_room (Nat.le_of_ble_eq_true rfl)) d_Mo_first_108 ⟨Nat.le_of_ble_eq_true rfl, Nat.le_of_ble_eq_true rfl⟩) hI.2 (fun q _ h => ga_sub hAC hA0 hI.2 q h) (ga_sub hAC hA0 hI.2) (fun v t H1 locs1 ht hWt hpost _ _ hS => ?_) (fun x t H1 locs1 ht hWt hpost _ _ hS => (hpost.2 x rfl).elim)
              rcases hpost.1 _ rfl with ⟨z131, t_tr132, t_sh133, hv, c134, c134_0, c134_1, c134_2, c134_3, hI1⟩ | ⟨z135, t_sh136, hv, c137, c137_0, c137_1, c137_2, c137_3, c137_4, c137_5, hI1⟩
              · cases hv
                have hI : sI (dC, dI) vcl cI cJ (gsM a th t_tr132 dp zi co t_sh133 lt ts mf) A s.heap H1 locs1 := ⟨by rw [← ht]; exact hI1, hS⟩
                obtain ⟨-, ⟨o138, o139⟩, -, -, -, ⟨o140, o141⟩, -, -, -⟩ := id c134
                clear hpost hI1 hS ht hWt
                revert hI; generalize H1 = H; generalize locs1 = locs; intro hI
                refine lv_pop hx hb d_Mo_first_111 rfl ?_
                refine lv_goto (tgt := 220) hx hb d_Mo_first_112 (by decide) ?_
                subst hZ
                exact tz_ret (W.vret hx hb hr (fun t ht hW => ⟨⟨fun v9 hv9 => by cases hv9; exact (Or.inl ⟨t_tr132, dp, zi, t_sh133, mf, rfl, c134, by omega, by omega, by rw [ht]; exact hI.1⟩), fun x9 hx9 => (by cases hx9)⟩, hI.2.F ht⟩) hI.2.2.2 d_Mo_first_220)
              · cases hv
                have hI : sI (dC, dI) vcl cI cJ (gsM a th tr dp zi co t_sh136 lt ts mf) A s.heap H1 locs1 := ⟨by rw [← ht]; exact hI1, hS⟩
                obtain ⟨-, -, -, -, -, ⟨o142, o143⟩, -, -, -⟩ := id c137
                clear hpost hI1 hS ht hWt
                revert hI; generalize H1 = H; generalize locs1 = locs; intro hI
                refine lv_pop hx hb d_Mo_first_111 rfl ?_
                refine lv_goto (tgt := 220) hx hb d_Mo_first_112 (by decide) ?_
                subst hZ
                exact tz_ret (W.vret hx hb hr (fun t ht hW => ⟨⟨fun v9 hv9 => by cases hv9; exact (Or.inr (Or.inr (⟨dp, zi, t_sh136, mf, rfl, c137, by omega, by omega, by rw [ht]; exact hI.1⟩))), fun x9 hx9 => (by cases hx9)⟩, hI.2.F ht⟩) hI.2.2.2 d_Mo_first_220)
          · refine lv_aload_n hx hb d_Mo_first_81 rfl (lv_at hl 0 rfl) ?_
            refine lv_iload_n hx hb d_Mo_first_82 rfl (lv_at hl 2 rfl) ?_
            refine lv_iload_n hx hb d_Mo_first_83 rfl (lv_at hl 1 rfl) ?_
            refine sn_iconst hx hb d_Mo_first_84 (by decide) (fun z144 hz144 => ?_)
            refine sn_icmp_ne (tgt := 92) hx hb d_Mo_first_85 (by decide) (fun b145 => ?_) (fun b145 => ?_)
            · refine sn_iconst hx hb d_Mo_first_92 (by decide) (fun z146 hz146 => ?_)
              refine tz_call (A1 := ga (adM a) H.size) (tz_runV (C := "StoryMachineModel") (As := [.int x2, .int z146]) (rest := []) ⟨hx, hb, hml, hown, hts⟩ (c_Mo_change l hfl dC dI cI cJ a H.size th tr dp zi co sh lt ts mf x2 z146 hok (by omega) (by omega) (by omega) (by omega)) (tx_cb (n := 2) hts rfl rfl ⟨Nat.le_of_ble_eq_true rfl, Nat.le_of_ble_eq_true rfl⟩ (tx_code.of (hts _ mw_1321)) (hts _ mw_12) (by decide +kernel) (hts _ mw_1318)) (hts _ mw_1320) (hts _ ms_Mo_change) ⟨tz_blind, sv_recv (q0 := 0) hts in_Mo hK hI kM_0 rfl, fun U hU hW => ⟨rfl, by rw [hU], by rw [hU]; exact hI.1, va_K.moved hW.alike hK, hst _ _ hI.2 U hU hW⟩⟩ rfl rfl hl.1 rfl (lv_room (Nat.le_of_ble_eq_true rfl)) d_Mo_first_93 ⟨Nat.le_of_ble_eq_true rfl, Nat.le_of_ble_eq_true rfl⟩) hI.2 (fun q _ h => ga_sub hAC hA0 hI.2 q h) (ga_sub hAC hA0 hI.2) (fun v t H1 locs1 ht hWt hpost _ _ hS => ?_) (fun x t H1 locs1 ht hWt hpost _ _ hS => (hpost.2 x rfl).elim)
              rcases hpost.1 _ rfl with ⟨z147, t_tr148, hv, c149, c149_0, c149_1, c149_2, hI1⟩ | ⟨z150, f_mf151, hv, c152, c152_0, c152_1, c152_2, c152_3, hI1⟩
              · cases hv
                have hI : sI (dC, dI) vcl cI cJ (gsM a th t_tr148 dp zi co sh lt ts mf) A s.heap H1 locs1 := ⟨by rw [← ht]; exact hI1, hS⟩
                obtain ⟨-, ⟨o153, o154⟩, -, -, -, -, -, -, -⟩ := id c149
                clear hpost hI1 hS ht hWt
                revert hI; generalize H1 = H; generalize locs1 = locs; intro hI
                refine lv_pop hx hb d_Mo_first_96 rfl ?_
                refine lv_goto (tgt := 220) hx hb d_Mo_first_97 (by decide) ?_
                subst hZ
                exact tz_ret (W.vret hx hb hr (fun t ht hW => ⟨⟨fun v9 hv9 => by cases hv9; exact (Or.inl ⟨t_tr148, dp, zi, sh, mf, rfl, c149, by omega, by omega, by rw [ht]; exact hI.1⟩), fun x9 hx9 => (by cases hx9)⟩, hI.2.F ht⟩) hI.2.2.2 d_Mo_first_220)
              · cases hv
                have hI : sI (dC, dI) vcl cI cJ (gsM a th tr dp zi co sh lt ts f_mf151) A s.heap H1 locs1 := ⟨by rw [← ht]; exact hI1, hS⟩
                obtain ⟨-, -, -, -, -, -, -, -, -⟩ := id c152
                clear hpost hI1 hS ht hWt
                revert hI; generalize H1 = H; generalize locs1 = locs; intro hI
                refine lv_pop hx hb d_Mo_first_96 rfl ?_
                refine lv_goto (tgt := 220) hx hb d_Mo_first_97 (by decide) ?_
                subst hZ
                exact tz_ret (W.vret hx hb hr (fun t ht hW => ⟨⟨fun v9 hv9 => by cases hv9; exact (Or.inr (Or.inr (⟨dp, zi, sh, f_mf151, rfl, c152, by omega, by omega, by rw [ht]; exact hI.1⟩))), fun x9 hx9 => (by cases hx9)⟩, hI.2.F ht⟩) hI.2.2.2 d_Mo_first_220)
            · refine sn_iconst hx hb d_Mo_first_88 (by decide) (fun z155 hz155 => ?_)
              refine lv_goto (tgt := 93) hx hb d_Mo_first_89 (by decide) ?_
              refine tz_call (A1 := ga (adM a) H.size) (tz_runV (C := "StoryMachineModel") (As := [.int x2, .int z155]) (rest := []) ⟨hx, hb, hml, hown, hts⟩ (c_Mo_change l hfl dC dI cI cJ a H.size th tr dp zi co sh lt ts mf x2 z155 hok (by omega) (by omega) (by omega) (by omega)) (tx_cb (n := 2) hts rfl rfl ⟨Nat.le_of_ble_eq_true rfl, Nat.le_of_ble_eq_true rfl⟩ (tx_code.of (hts _ mw_1321)) (hts _ mw_12) (by decide +kernel) (hts _ mw_1318)) (hts _ mw_1320) (hts _ ms_Mo_change) ⟨tz_blind, sv_recv (q0 := 0) hts in_Mo hK hI kM_0 rfl, fun U hU hW => ⟨rfl, by rw [hU], by rw [hU]; exact hI.1, va_K.moved hW.alike hK, hst _ _ hI.2 U hU hW⟩⟩ rfl rfl hl.1 rfl (lv_room (Nat.le_of_ble_eq_true rfl)) d_Mo_first_93 ⟨Nat.le_of_ble_eq_true rfl, Nat.le_of_ble_eq_true rfl⟩) hI.2 (fun q _ h => ga_sub hAC hA0 hI.2 q h) (ga_sub hAC hA0 hI.2) (fun v t H1 locs1 ht hWt hpost _ _ hS => ?_) (fun x t H1 locs1 ht hWt hpost _ _ hS => (hpost.2 x rfl).elim)
              rcases hpost.1 _ rfl with ⟨z156, t_tr157, hv, c158, c158_0, c158_1, c158_2, hI1⟩ | ⟨z159, f_mf160, hv, c161, c161_0, c161_1, c161_2, c161_3, hI1⟩
              · cases hv
                have hI : sI (dC, dI) vcl cI cJ (gsM a th t_tr157 dp zi co sh lt ts mf) A s.heap H1 locs1 := ⟨by rw [← ht]; exact hI1, hS⟩
                obtain ⟨-, ⟨o162, o163⟩, -, -, -, -, -, -, -⟩ := id c158
                clear hpost hI1 hS ht hWt
                revert hI; generalize H1 = H; generalize locs1 = locs; intro hI
                refine lv_pop hx hb d_Mo_first_96 rfl ?_
                refine lv_goto (tgt := 220) hx hb d_Mo_first_97 (by decide) ?_
                subst hZ
                exact tz_ret (W.vret hx hb hr (fun t ht hW => ⟨⟨fun v9 hv9 => by cases hv9; exact (Or.inl ⟨t_tr157, dp, zi, sh, mf, rfl, c158, by omega, by omega, by rw [ht]; exact hI.1⟩), fun x9 hx9 => (by cases hx9)⟩, hI.2.F ht⟩) hI.2.2.2 d_Mo_first_220)
              · cases hv
                have hI : sI (dC, dI) vcl cI cJ (gsM a th tr dp zi co sh lt ts f_mf160) A s.heap H1 locs1 := ⟨by rw [← ht]; exact hI1, hS⟩
                obtain ⟨-, -, -, -, -, -, -, -, -⟩ := id c161
                clear hpost hI1 hS ht hWt
                revert hI; generalize H1 = H; generalize locs1 = locs; intro hI
                refine lv_pop hx hb d_Mo_first_96 rfl ?_
                refine lv_goto (tgt := 220) hx hb d_Mo_first_97 (by decide) ?_
                subst hZ
                exact tz_ret (W.vret hx hb hr (fun t ht hW => ⟨⟨fun v9 hv9 => by cases hv9; exact (Or.inr (Or.inr (⟨dp, zi, sh, f_mf160, rfl, c161, by omega, by omega, by rw [ht]; exact hI.1⟩))), fun x9 hx9 => (by cases hx9)⟩, hI.2.F ht⟩) hI.2.2.2 d_Mo_first_220)
        · refine lv_aload_n hx hb d_Mo_first_63 rfl (lv_at hl 0 rfl) ?_
          refine lv_aload_n hx hb d_Mo_first_64 rfl (lv_at hl 0 rfl) ?_
          refine lv_iload_n hx hb d_Mo_first_65 rfl (lv_at hl 2 rfl) ?_
          refine tz_call (A1 := ga (adM a) H.size) (tz_runV (C := "StoryMachineModel") (As := [.int x2]) (rest := [.ref (a 0)]) ⟨hx, hb, hml, hown, hts⟩ (c_Mo_lengthAt l hfl dC dI cI cJ a H.size th tr dp zi co sh lt ts mf x2 hok) (tx_cb (n := 1) hts rfl rfl ⟨Nat.le_of_ble_eq_true rfl, Nat.le_of_ble_eq_true rfl⟩ (tx_code.of (hts _ mw_1381)) (hts _ mw_12) (by decide +kernel) (hts _ mw_1378)) (hts _ mw_1380) (hts _ ms_Mo_lengthAt) ⟨tz_blind, sv_recv (q0 := 0) hts in_Mo hK hI kM_0 rfl, fun U hU hW => ⟨rfl, by rw [hU], by rw [hU]; exact hI.1, va_K.moved hW.alike hK, hst _ _ hI.2 U hU hW⟩⟩ rfl rfl hl.1 rfl (lv_room (Nat.le_of_ble_eq_true rfl)) d_Mo_first_66 ⟨Nat.le_of_ble_eq_true rfl, Nat.le_of_ble_eq_true rfl⟩) hI.2 (fun q _ h => ga_sub hAC hA0 hI.2 q h) (ga_sub hAC hA0 hI.2) (fun v t H1 locs1 ht hWt hpost _ _ hS => ?_) (fun x t H1 locs1 ht hWt hpost _ _ hS => (hpost.2 x rfl).elim)
          rcases hpost.1 _ rfl with ⟨z164, t_tr165, hv, c166, c166_0, c166_1, c166_2, hI1⟩ | ⟨z167, hv, c168, c168_0, c168_1, c168_2, hI1⟩
          · cases hv
            have hI : sI (dC, dI) vcl cI cJ (gsM a th t_tr165 dp zi co sh lt ts mf) A s.heap H1 locs1 := ⟨by rw [← ht]; exact hI1, hS⟩
            obtain ⟨-, ⟨o169, o170⟩, -, -, -, -, -, -, -⟩ := id c166
            clear hpost hI1 hS ht hWt
            revert hI; generalize H1 = H; generalize locs1 = locs; intro hI
            refine tz_call (A1 := ga (adM a) H.size) (tz_runV (C := "StoryMachineModel") (As := [.int z164]) (rest := []) ⟨hx, hb, hml, hown, hts⟩ (c_Mo_giveIf l hfl dC dI cI cJ a H.size th t_tr165 dp zi co sh lt ts mf z164 c166) (tx_cb (n := 1) hts rfl rfl ⟨Nat.le_of_ble_eq_true rfl, Nat.le_of_ble_eq_true rfl⟩ (tx_code.of (hts _ mw_1397)) (hts _ mw_12) (by decide +kernel) (hts _ mw_1394)) (hts _ mw_1396) (hts _ ms_Mo_giveIf) ⟨tz_blind, sv_recv (q0 := 0) hts in_Mo hK hI kM_0 rfl, fun U hU hW => ⟨rfl, by rw [hU], by rw [hU]; exact hI.1, va_K.moved hW.alike hK, hst _ _ hI.2 U hU hW⟩⟩ rfl rfl hl.1 rfl (lv_room (Nat.le_of_ble_eq_true rfl)) d_Mo_first_69 ⟨Nat.le_of_ble_eq_true rfl, Nat.le_of_ble_eq_true rfl⟩) hI.2 (fun q _ h => ga_sub hAC hA0 hI.2 q h) (ga_sub hAC hA0 hI.2) (fun v t H1 locs1 ht hWt hpost _ _ hS => ?_) (fun x t H1 locs1 ht hWt hpost _ _ hS => (hpost.2 x rfl).elim)
            rcases hpost.1 _ rfl with ⟨t_tr171, hv, c172, c172_0, hI1⟩ | ⟨t_zi173, f_mf174, hv, c175, c175_0, hI1⟩
            · cases hv
              have hI : sI (dC, dI) vcl cI cJ (gsM a th t_tr171 dp zi co sh lt ts mf) A s.heap H1 locs1 := ⟨by rw [← ht]; exact hI1, hS⟩
              obtain ⟨-, ⟨o176, o177⟩, -, -, -, -, -, -, -⟩ := id c172
              clear hpost hI1 hS ht hWt
              revert hI; generalize H1 = H; generalize locs1 = locs; intro hI
              refine lv_goto (tgt := 220) hx hb d_Mo_first_72 (by decide) ?_
              subst hZ
              exact tz_ret (W.vret hx hb hr (fun t ht hW => ⟨⟨fun v9 hv9 => by cases hv9; exact (Or.inl ⟨t_tr171, dp, zi, sh, mf, rfl, c172, by omega, by omega, by rw [ht]; exact hI.1⟩), fun x9 hx9 => (by cases hx9)⟩, hI.2.F ht⟩) hI.2.2.2 d_Mo_first_220)
            · omega
          · cases hv
            have hI : sI (dC, dI) vcl cI cJ (gsM a th tr dp zi co sh lt ts mf) A s.heap H1 locs1 := ⟨by rw [← ht]; exact hI1, hS⟩
            clear hpost hI1 hS ht hWt
            revert hI; generalize H1 = H; generalize locs1 = locs; intro hI
            refine tz_call (A1 := ga (adM a) H.size) (tz_runV (C := "StoryMachineModel") (As := [.int z167]) (rest := []) ⟨hx, hb, hml, hown, hts⟩ (c_Mo_giveIf l hfl dC dI cI cJ a H.size th tr dp zi co sh lt ts mf z167 c168) (tx_cb (n := 1) hts rfl rfl ⟨Nat.le_of_ble_eq_true rfl, Nat.le_of_ble_eq_true rfl⟩ (tx_code.of (hts _ mw_1397)) (hts _ mw_12) (by decide +kernel) (hts _ mw_1394)) (hts _ mw_1396) (hts _ ms_Mo_giveIf) ⟨tz_blind, sv_recv (q0 := 0) hts in_Mo hK hI kM_0 rfl, fun U hU hW => ⟨rfl, by rw [hU], by rw [hU]; exact hI.1, va_K.moved hW.alike hK, hst _ _ hI.2 U hU hW⟩⟩ rfl rfl hl.1 rfl (lv_room (Nat.le_of_ble_eq_true rfl)) d_Mo_first_69 ⟨Nat.le_of_ble_eq_true rfl, Nat.le_of_ble_eq_true rfl⟩) hI.2 (fun q _ h => ga_sub hAC hA0 hI.2 q h) (ga_sub hAC hA0 hI.2) (fun v t H1 locs1 ht hWt hpost _ _ hS => ?_) (fun x t H1 locs1 ht hWt hpost _ _ hS => (hpost.2 x rfl).elim)
            rcases hpost.1 _ rfl with ⟨t_tr178, hv, c179, c179_0, hI1⟩ | ⟨t_zi180, f_mf181, hv, c182, c182_0, hI1⟩
            · cases hv
              have hI : sI (dC, dI) vcl cI cJ (gsM a th t_tr178 dp zi co sh lt ts mf) A s.heap H1 locs1 := ⟨by rw [← ht]; exact hI1, hS⟩
              obtain ⟨-, ⟨o183, o184⟩, -, -, -, -, -, -, -⟩ := id c179
              clear hpost hI1 hS ht hWt
              revert hI; generalize H1 = H; generalize locs1 = locs; intro hI
              refine lv_goto (tgt := 220) hx hb d_Mo_first_72 (by decide) ?_
              subst hZ
              exact tz_ret (W.vret hx hb hr (fun t ht hW => ⟨⟨fun v9 hv9 => by cases hv9; exact (Or.inl ⟨t_tr178, dp, zi, sh, mf, rfl, c179, by omega, by omega, by rw [ht]; exact hI.1⟩), fun x9 hx9 => (by cases hx9)⟩, hI.2.F ht⟩) hI.2.2.2 d_Mo_first_220)
            · cases hv
              have hI : sI (dC, dI) vcl cI cJ (gsM a th tr dp t_zi180 co sh lt ts f_mf181) A s.heap H1 locs1 := ⟨by rw [← ht]; exact hI1, hS⟩
              obtain ⟨-, -, -, ⟨o185, o186⟩, -, -, -, -, -⟩ := id c182
              clear hpost hI1 hS ht hWt
              revert hI; generalize H1 = H; generalize locs1 = locs; intro hI
              refine lv_goto (tgt := 220) hx hb d_Mo_first_72 (by decide) ?_
              subst hZ
              exact tz_ret (W.vret hx hb hr (fun t ht hW => ⟨⟨fun v9 hv9 => by cases hv9; exact (Or.inr (Or.inr (⟨dp, t_zi180, sh, f_mf181, rfl, c182, by omega, by omega, by rw [ht]; exact hI.1⟩))), fun x9 hx9 => (by cases hx9)⟩, hI.2.F ht⟩) hI.2.2.2 d_Mo_first_220)
      · refine lv_aload_n hx hb d_Mo_first_45 rfl (lv_at hl 0 rfl) ?_
        refine lv_aload_n hx hb d_Mo_first_46 rfl (lv_at hl 0 rfl) ?_
        refine lv_iload_n hx hb d_Mo_first_47 rfl (lv_at hl 2 rfl) ?_
        refine sn_iconst hx hb d_Mo_first_48 (by decide) (fun z187 hz187 => ?_)
        refine tz_call (A1 := ga (adM a) H.size) (tz_runV (C := "StoryMachineModel") (As := [.int x2, .int z187]) (rest := [.ref (a 0)]) ⟨hx, hb, hml, hown, hts⟩ (c_Mo_of l hfl dC dI cI cJ a H.size th tr dp zi co sh lt ts mf x2 z187 hok (by omega) (by omega)) (tx_cb (n := 2) hts rfl rfl ⟨Nat.le_of_ble_eq_true rfl, Nat.le_of_ble_eq_true rfl⟩ (tx_code.of (hts _ mw_1325)) (hts _ mw_12) (by decide +kernel) (hts _ mw_1322)) (hts _ mw_1324) (hts _ ms_Mo_of) ⟨tz_blind, sv_recv (q0 := 0) hts in_Mo hK hI kM_0 rfl, fun U hU hW => ⟨rfl, by rw [hU], by rw [hU]; exact hI.1, va_K.moved hW.alike hK, hst _ _ hI.2 U hU hW⟩⟩ rfl rfl hl.1 rfl (lv_room (Nat.le_of_ble_eq_true rfl)) d_Mo_first_49 ⟨Nat.le_of_ble_eq_true rfl, Nat.le_of_ble_eq_true rfl⟩) hI.2 (fun q _ h => ga_sub hAC hA0 hI.2 q h) (ga_sub hAC hA0 hI.2) (fun v t H1 locs1 ht hWt hpost _ _ hS => ?_) (fun x t H1 locs1 ht hWt hpost _ _ hS => (hpost.2 x rfl).elim)
        rcases hpost.1 _ rfl with ⟨z188, t_tr189, hv, c190, c190_0, c190_1, c190_2, hI1⟩ | ⟨z191, hv, c192, c192_0, c192_1, c192_2, c192_3, c192_4, hI1⟩
        · cases hv
          have hI : sI (dC, dI) vcl cI cJ (gsM a th t_tr189 dp zi co sh lt ts mf) A s.heap H1 locs1 := ⟨by rw [← ht]; exact hI1, hS⟩
          obtain ⟨-, ⟨o193, o194⟩, -, -, -, -, -, -, -⟩ := id c190
          clear hpost hI1 hS ht hWt
          revert hI; generalize H1 = H; generalize locs1 = locs; intro hI
          refine tz_call (A1 := ga (adM a) H.size) (tz_runV (C := "StoryMachineModel") (As := [.int z188]) (rest := []) ⟨hx, hb, hml, hown, hts⟩ (c_Mo_giveIf l hfl dC dI cI cJ a H.size th t_tr189 dp zi co sh lt ts mf z188 c190) (tx_cb (n := 1) hts rfl rfl ⟨Nat.le_of_ble_eq_true rfl, Nat.le_of_ble_eq_true rfl⟩ (tx_code.of (hts _ mw_1397)) (hts _ mw_12) (by decide +kernel) (hts _ mw_1394)) (hts _ mw_1396) (hts _ ms_Mo_giveIf) ⟨tz_blind, sv_recv (q0 := 0) hts in_Mo hK hI kM_0 rfl, fun U hU hW => ⟨rfl, by rw [hU], by rw [hU]; exact hI.1, va_K.moved hW.alike hK, hst _ _ hI.2 U hU hW⟩⟩ rfl rfl hl.1 rfl (lv_room (Nat.le_of_ble_eq_true rfl)) d_Mo_first_52 ⟨Nat.le_of_ble_eq_true rfl, Nat.le_of_ble_eq_true rfl⟩) hI.2 (fun q _ h => ga_sub hAC hA0 hI.2 q h) (ga_sub hAC hA0 hI.2) (fun v t H1 locs1 ht hWt hpost _ _ hS => ?_) (fun x t H1 locs1 ht hWt hpost _ _ hS => (hpost.2 x rfl).elim)
          rcases hpost.1 _ rfl with ⟨t_tr195, hv, c196, c196_0, hI1⟩ | ⟨t_zi197, f_mf198, hv, c199, c199_0, hI1⟩
          · cases hv
            have hI : sI (dC, dI) vcl cI cJ (gsM a th t_tr195 dp zi co sh lt ts mf) A s.heap H1 locs1 := ⟨by rw [← ht]; exact hI1, hS⟩
            obtain ⟨-, ⟨o200, o201⟩, -, -, -, -, -, -, -⟩ := id c196
            clear hpost hI1 hS ht hWt
            revert hI; generalize H1 = H; generalize locs1 = locs; intro hI
            refine lv_goto (tgt := 220) hx hb d_Mo_first_55 (by decide) ?_
            subst hZ
            exact tz_ret (W.vret hx hb hr (fun t ht hW => ⟨⟨fun v9 hv9 => by cases hv9; exact (Or.inl ⟨t_tr195, dp, zi, sh, mf, rfl, c196, by omega, by omega, by rw [ht]; exact hI.1⟩), fun x9 hx9 => (by cases hx9)⟩, hI.2.F ht⟩) hI.2.2.2 d_Mo_first_220)
          · omega
        · cases hv
          have hI : sI (dC, dI) vcl cI cJ (gsM a th tr dp zi co sh lt ts mf) A s.heap H1 locs1 := ⟨by rw [← ht]; exact hI1, hS⟩
          clear hpost hI1 hS ht hWt
          revert hI; generalize H1 = H; generalize locs1 = locs; intro hI
          refine tz_call (A1 := ga (adM a) H.size) (tz_runV (C := "StoryMachineModel") (As := [.int z191]) (rest := []) ⟨hx, hb, hml, hown, hts⟩ (c_Mo_giveIf l hfl dC dI cI cJ a H.size th tr dp zi co sh lt ts mf z191 c192) (tx_cb (n := 1) hts rfl rfl ⟨Nat.le_of_ble_eq_true rfl, Nat.le_of_ble_eq_true rfl⟩ (tx_code.of (hts _ mw_1397)) (hts _ mw_12) (by decide +kernel) (hts _ mw_1394)) (hts _ mw_1396) (hts _ ms_Mo_giveIf) ⟨tz_blind, sv_recv (q0 := 0) hts in_Mo hK hI kM_0 rfl, fun U hU hW => ⟨rfl, by rw [hU], by rw [hU]; exact hI.1, va_K.moved hW.alike hK, hst _ _ hI.2 U hU hW⟩⟩ rfl rfl hl.1 rfl (lv_room (Nat.le_of_ble_eq_true rfl)) d_Mo_first_52 ⟨Nat.le_of_ble_eq_true rfl, Nat.le_of_ble_eq_true rfl⟩) hI.2 (fun q _ h => ga_sub hAC hA0 hI.2 q h) (ga_sub hAC hA0 hI.2) (fun v t H1 locs1 ht hWt hpost _ _ hS => ?_) (fun x t H1 locs1 ht hWt hpost _ _ hS => (hpost.2 x rfl).elim)
          rcases hpost.1 _ rfl with ⟨t_tr202, hv, c203, c203_0, hI1⟩ | ⟨t_zi204, f_mf205, hv, c206, c206_0, hI1⟩
          · cases hv
            have hI : sI (dC, dI) vcl cI cJ (gsM a th t_tr202 dp zi co sh lt ts mf) A s.heap H1 locs1 := ⟨by rw [← ht]; exact hI1, hS⟩
            obtain ⟨-, ⟨o207, o208⟩, -, -, -, -, -, -, -⟩ := id c203
            clear hpost hI1 hS ht hWt
            revert hI; generalize H1 = H; generalize locs1 = locs; intro hI
            refine lv_goto (tgt := 220) hx hb d_Mo_first_55 (by decide) ?_
            subst hZ
            exact tz_ret (W.vret hx hb hr (fun t ht hW => ⟨⟨fun v9 hv9 => by cases hv9; exact (Or.inl ⟨t_tr202, dp, zi, sh, mf, rfl, c203, by omega, by omega, by rw [ht]; exact hI.1⟩), fun x9 hx9 => (by cases hx9)⟩, hI.2.F ht⟩) hI.2.2.2 d_Mo_first_220)
          · cases hv
            have hI : sI (dC, dI) vcl cI cJ (gsM a th tr dp t_zi204 co sh lt ts f_mf205) A s.heap H1 locs1 := ⟨by rw [← ht]; exact hI1, hS⟩
            obtain ⟨-, -, -, ⟨o209, o210⟩, -, -, -, -, -⟩ := id c206
            clear hpost hI1 hS ht hWt
            revert hI; generalize H1 = H; generalize locs1 = locs; intro hI
            refine lv_goto (tgt := 220) hx hb d_Mo_first_55 (by decide) ?_
            subst hZ
            exact tz_ret (W.vret hx hb hr (fun t ht hW => ⟨⟨fun v9 hv9 => by cases hv9; exact (Or.inr (Or.inr (⟨dp, t_zi204, sh, f_mf205, rfl, c206, by omega, by omega, by rw [ht]; exact hI.1⟩))), fun x9 hx9 => (by cases hx9)⟩, hI.2.F ht⟩) hI.2.2.2 d_Mo_first_220)
    · refine lv_aload_n hx hb d_Mo_first_25 rfl (lv_at hl 0 rfl) ?_
      refine lv_aload_n hx hb d_Mo_first_26 rfl (lv_at hl 0 rfl) ?_
      refine lv_iload_n hx hb d_Mo_first_27 rfl (lv_at hl 2 rfl) ?_
      refine lv_iload_n hx hb d_Mo_first_28 rfl (lv_at hl 1 rfl) ?_
      refine sn_iconst hx hb d_Mo_first_29 (by decide) (fun z211 hz211 => ?_)
      refine sn_iadd hx hb d_Mo_first_30 (by omega) (by omega) (fun z212 hz212 => ?_)
      refine tz_call (A1 := ga (adM a) H.size) (tz_runV (C := "StoryMachineModel") (As := [.int x2, .int z212]) (rest := [.ref (a 0)]) ⟨hx, hb, hml, hown, hts⟩ (c_Mo_of l hfl dC dI cI cJ a H.size th tr dp zi co sh lt ts mf x2 z212 hok (by omega) (by omega)) (tx_cb (n := 2) hts rfl rfl ⟨Nat.le_of_ble_eq_true rfl, Nat.le_of_ble_eq_true rfl⟩ (tx_code.of (hts _ mw_1325)) (hts _ mw_12) (by decide +kernel) (hts _ mw_1322)) (hts _ mw_1324) (hts _ ms_Mo_of) ⟨tz_blind, sv_recv (q0 := 0) hts in_Mo hK hI kM_0 rfl, fun U hU hW => ⟨rfl, by rw [hU], by rw [hU]; exact hI.1, va_K.moved hW.alike hK, hst _ _ hI.2 U hU hW⟩⟩ rfl rfl hl.1 rfl (lv_room (Nat.le_of_ble_eq_true rfl)) d_Mo_first_31 ⟨Nat.le_of_ble_eq_true rfl, Nat.le_of_ble_eq_true rfl⟩) hI.2 (fun q _ h => ga_sub hAC hA0 hI.2 q h) (ga_sub hAC hA0 hI.2) (fun v t H1 locs1 ht hWt hpost _ _ hS => ?_) (fun x t H1 locs1 ht hWt hpost _ _ hS => (hpost.2 x rfl).elim)
      rcases hpost.1 _ rfl with ⟨z213, t_tr214, hv, c215, c215_0, c215_1, c215_2, hI1⟩ | ⟨z216, hv, c217, c217_0, c217_1, c217_2, c217_3, c217_4, hI1⟩
      · cases hv
        have hI : sI (dC, dI) vcl cI cJ (gsM a th t_tr214 dp zi co sh lt ts mf) A s.heap H1 locs1 := ⟨by rw [← ht]; exact hI1, hS⟩
        obtain ⟨-, ⟨o218, o219⟩, -, -, -, -, -, -, -⟩ := id c215
        clear hpost hI1 hS ht hWt
        revert hI; generalize H1 = H; generalize locs1 = locs; intro hI
        refine tz_call (A1 := ga (adM a) H.size) (tz_runV (C := "StoryMachineModel") (As := [.int z213]) (rest := []) ⟨hx, hb, hml, hown, hts⟩ (c_Mo_giveAndAsk l hfl dC dI cI cJ a H.size th t_tr214 dp zi co sh lt ts mf z213 c215) (tx_cb (n := 1) hts rfl rfl ⟨Nat.le_of_ble_eq_true rfl, Nat.le_of_ble_eq_true rfl⟩ (tx_code.of (hts _ mw_1393)) (hts _ mw_12) (by decide +kernel) (hts _ mw_1390)) (hts _ mw_1392) (hts _ ms_Mo_giveAndAsk) ⟨tz_blind, sv_recv (q0 := 0) hts in_Mo hK hI kM_0 rfl, fun U hU hW => ⟨rfl, by rw [hU], by rw [hU]; exact hI.1, va_K.moved hW.alike hK, hst _ _ hI.2 U hU hW⟩⟩ rfl rfl hl.1 rfl (lv_room (Nat.le_of_ble_eq_true rfl)) d_Mo_first_34 ⟨Nat.le_of_ble_eq_true rfl, Nat.le_of_ble_eq_true rfl⟩) hI.2 (fun q _ h => ga_sub hAC hA0 hI.2 q h) (ga_sub hAC hA0 hI.2) (fun v t H1 locs1 ht hWt hpost _ _ hS => ?_) (fun x t H1 locs1 ht hWt hpost _ _ hS => (hpost.2 x rfl).elim)
        rcases hpost.1 _ rfl with ⟨t_tr220, t_dp221, t_zi222, f_mf223, hv, c224, c224_0, hI1⟩ | ⟨t_dp225, t_zi226, f_mf227, hv, c228, c228_0, hI1⟩
        · cases hv
          have hI : sI (dC, dI) vcl cI cJ (gsM a th t_tr220 t_dp221 t_zi222 co sh lt ts f_mf223) A s.heap H1 locs1 := ⟨by rw [← ht]; exact hI1, hS⟩
          obtain ⟨-, ⟨o229, o230⟩, ⟨o231, o232⟩, ⟨o233, o234⟩, -, -, -, -, -⟩ := id c224
          clear hpost hI1 hS ht hWt
          revert hI; generalize H1 = H; generalize locs1 = locs; intro hI
          refine lv_goto (tgt := 220) hx hb d_Mo_first_37 (by decide) ?_
          subst hZ
          exact tz_ret (W.vret hx hb hr (fun t ht hW => ⟨⟨fun v9 hv9 => by cases hv9; exact (Or.inl ⟨t_tr220, t_dp221, t_zi222, sh, f_mf223, rfl, c224, by omega, by omega, by rw [ht]; exact hI.1⟩), fun x9 hx9 => (by cases hx9)⟩, hI.2.F ht⟩) hI.2.2.2 d_Mo_first_220)
        · omega
      · cases hv
        have hI : sI (dC, dI) vcl cI cJ (gsM a th tr dp zi co sh lt ts mf) A s.heap H1 locs1 := ⟨by rw [← ht]; exact hI1, hS⟩
        clear hpost hI1 hS ht hWt
        revert hI; generalize H1 = H; generalize locs1 = locs; intro hI
        refine tz_call (A1 := ga (adM a) H.size) (tz_runV (C := "StoryMachineModel") (As := [.int z216]) (rest := []) ⟨hx, hb, hml, hown, hts⟩ (c_Mo_giveAndAsk l hfl dC dI cI cJ a H.size th tr dp zi co sh lt ts mf z216 c217) (tx_cb (n := 1) hts rfl rfl ⟨Nat.le_of_ble_eq_true rfl, Nat.le_of_ble_eq_true rfl⟩ (tx_code.of (hts _ mw_1393)) (hts _ mw_12) (by decide +kernel) (hts _ mw_1390)) (hts _ mw_1392) (hts _ ms_Mo_giveAndAsk) ⟨tz_blind, sv_recv (q0 := 0) hts in_Mo hK hI kM_0 rfl, fun U hU hW => ⟨rfl, by rw [hU], by rw [hU]; exact hI.1, va_K.moved hW.alike hK, hst _ _ hI.2 U hU hW⟩⟩ rfl rfl hl.1 rfl (lv_room (Nat.le_of_ble_eq_true rfl)) d_Mo_first_34 ⟨Nat.le_of_ble_eq_true rfl, Nat.le_of_ble_eq_true rfl⟩) hI.2 (fun q _ h => ga_sub hAC hA0 hI.2 q h) (ga_sub hAC hA0 hI.2) (fun v t H1 locs1 ht hWt hpost _ _ hS => ?_) (fun x t H1 locs1 ht hWt hpost _ _ hS => (hpost.2 x rfl).elim)
        rcases hpost.1 _ rfl with ⟨t_tr235, t_dp236, t_zi237, f_mf238, hv, c239, c239_0, hI1⟩ | ⟨t_dp240, t_zi241, f_mf242, hv, c243, c243_0, hI1⟩
        · cases hv
          have hI : sI (dC, dI) vcl cI cJ (gsM a th t_tr235 t_dp236 t_zi237 co sh lt ts f_mf238) A s.heap H1 locs1 := ⟨by rw [← ht]; exact hI1, hS⟩
          obtain ⟨-, ⟨o244, o245⟩, ⟨o246, o247⟩, ⟨o248, o249⟩, -, -, -, -, -⟩ := id c239
          clear hpost hI1 hS ht hWt
          revert hI; generalize H1 = H; generalize locs1 = locs; intro hI
          refine lv_goto (tgt := 220) hx hb d_Mo_first_37 (by decide) ?_
          subst hZ
          exact tz_ret (W.vret hx hb hr (fun t ht hW => ⟨⟨fun v9 hv9 => by cases hv9; exact (Or.inl ⟨t_tr235, t_dp236, t_zi237, sh, f_mf238, rfl, c239, by omega, by omega, by rw [ht]; exact hI.1⟩), fun x9 hx9 => (by cases hx9)⟩, hI.2.F ht⟩) hI.2.2.2 d_Mo_first_220)
        · cases hv
          have hI : sI (dC, dI) vcl cI cJ (gsM a th tr t_dp240 t_zi241 co sh lt ts f_mf242) A s.heap H1 locs1 := ⟨by rw [← ht]; exact hI1, hS⟩
          obtain ⟨-, -, ⟨o250, o251⟩, ⟨o252, o253⟩, -, -, -, -, -⟩ := id c243
          clear hpost hI1 hS ht hWt
          revert hI; generalize H1 = H; generalize locs1 = locs; intro hI
          refine lv_goto (tgt := 220) hx hb d_Mo_first_37 (by decide) ?_
          subst hZ
          exact tz_ret (W.vret hx hb hr (fun t ht hW => ⟨⟨fun v9 hv9 => by cases hv9; exact (Or.inr (Or.inr (⟨t_dp240, t_zi241, sh, f_mf242, rfl, c243, by omega, by omega, by rw [ht]; exact hI.1⟩))), fun x9 hx9 => (by cases hx9)⟩, hI.2.F ht⟩) hI.2.2.2 d_Mo_first_220)
  · refine lv_aload_n hx hb d_Mo_first_4 rfl (lv_at hl 0 rfl) ?_
    refine lv_iload_n hx hb d_Mo_first_5 rfl (lv_at hl 2 rfl) ?_
    refine sn_if_ne (tgt := 13) hx hb d_Mo_first_6 (by decide) (fun b254 => ?_) (fun b254 => ?_)
    · refine sn_iconst hx hb d_Mo_first_13 (by decide) (fun z255 hz255 => ?_)
      refine tz_call (A1 := ga (adM a) H.size) (tz_runV (C := "StoryMachineModel") (As := [.int z255]) (rest := []) ⟨hx, hb, hml, hown, hts⟩ (c_Mo_branch l hfl dC dI cI cJ a H.size th tr dp zi co sh lt ts mf z255 hok (by omega) (by omega)) (tx_cb (n := 1) hts rfl rfl ⟨Nat.le_of_ble_eq_true rfl, Nat.le_of_ble_eq_true rfl⟩ (tx_code.of (hts _ mw_1288)) (hts _ mw_12) (by decide +kernel) (hts _ mw_1285)) (hts _ mw_1287) (hts _ ms_Mo_branch) ⟨tz_blind, sv_recv (q0 := 0) hts in_Mo hK hI kM_0 rfl, fun U hU hW => ⟨rfl, by rw [hU], by rw [hU]; exact hI.1, va_K.moved hW.alike hK, hst _ _ hI.2 U hU hW⟩⟩ rfl rfl hl.1 rfl (lv_room (Nat.le_of_ble_eq_true rfl)) d_Mo_first_14 ⟨Nat.le_of_ble_eq_true rfl, Nat.le_of_ble_eq_true rfl⟩) hI.2 (fun q _ h => ga_sub hAC hA0 hI.2 q h) (ga_sub hAC hA0 hI.2) (fun v t H1 locs1 ht hWt hpost _ _ hS => ?_) (fun x t H1 locs1 ht hWt hpost _ _ hS => (hpost.2 x rfl).elim)
      rcases hpost.1 _ rfl with ⟨t_tr256, t_dp257, t_zi258, hv, c259, c259_0, hI1⟩ | ⟨t_dp260, t_zi261, f_mf262, hv, c263, c263_0, hI1⟩
      · cases hv
        have hI : sI (dC, dI) vcl cI cJ (gsM a th t_tr256 t_dp257 t_zi258 co sh lt ts mf) A s.heap H1 locs1 := ⟨by rw [← ht]; exact hI1, hS⟩
        obtain ⟨-, ⟨o264, o265⟩, ⟨o266, o267⟩, ⟨o268, o269⟩, -, -, -, -, -⟩ := id c259
        clear hpost hI1 hS ht hWt
        revert hI; generalize H1 = H; generalize locs1 = locs; intro hI
        refine lv_goto (tgt := 220) hx hb d_Mo_first_17 (by decide) ?_
        subst hZ
        exact tz_ret (W.vret hx hb hr (fun t ht hW => ⟨⟨fun v9 hv9 => by cases hv9; exact (Or.inl ⟨t_tr256, t_dp257, t_zi258, sh, mf, rfl, c259, by omega, by omega, by rw [ht]; exact hI.1⟩), fun x9 hx9 => (by cases hx9)⟩, hI.2.F ht⟩) hI.2.2.2 d_Mo_first_220)
      · cases hv
        have hI : sI (dC, dI) vcl cI cJ (gsM a th tr t_dp260 t_zi261 co sh lt ts f_mf262) A s.heap H1 locs1 := ⟨by rw [← ht]; exact hI1, hS⟩
        obtain ⟨-, -, ⟨o270, o271⟩, ⟨o272, o273⟩, -, -, -, -, -⟩ := id c263
        clear hpost hI1 hS ht hWt
        revert hI; generalize H1 = H; generalize locs1 = locs; intro hI
        refine lv_goto (tgt := 220) hx hb d_Mo_first_17 (by decide) ?_
        subst hZ
        exact tz_ret (W.vret hx hb hr (fun t ht hW => ⟨⟨fun v9 hv9 => by cases hv9; exact (Or.inr (Or.inr (⟨t_dp260, t_zi261, sh, f_mf262, rfl, c263, by omega, by omega, by rw [ht]; exact hI.1⟩))), fun x9 hx9 => (by cases hx9)⟩, hI.2.F ht⟩) hI.2.2.2 d_Mo_first_220)
    · refine sn_iconst hx hb d_Mo_first_9 (by decide) (fun z274 hz274 => ?_)
      refine lv_goto (tgt := 14) hx hb d_Mo_first_10 (by decide) ?_
      refine tz_call (A1 := ga (adM a) H.size) (tz_runV (C := "StoryMachineModel") (As := [.int z274]) (rest := []) ⟨hx, hb, hml, hown, hts⟩ (c_Mo_branch l hfl dC dI cI cJ a H.size th tr dp zi co sh lt ts mf z274 hok (by omega) (by omega)) (tx_cb (n := 1) hts rfl rfl ⟨Nat.le_of_ble_eq_true rfl, Nat.le_of_ble_eq_true rfl⟩ (tx_code.of (hts _ mw_1288)) (hts _ mw_12) (by decide +kernel) (hts _ mw_1285)) (hts _ mw_1287) (hts _ ms_Mo_branch) ⟨tz_blind, sv_recv (q0 := 0) hts in_Mo hK hI kM_0 rfl, fun U hU hW => ⟨rfl, by rw [hU], by rw [hU]; exact hI.1, va_K.moved hW.alike hK, hst _ _ hI.2 U hU hW⟩⟩ rfl rfl hl.1 rfl (lv_room (Nat.le_of_ble_eq_true rfl)) d_Mo_first_14 ⟨Nat.le_of_ble_eq_true rfl, Nat.le_of_ble_eq_true rfl⟩) hI.2 (fun q _ h => ga_sub hAC hA0 hI.2 q h) (ga_sub hAC hA0 hI.2) (fun v t H1 locs1 ht hWt hpost _ _ hS => ?_) (fun x t H1 locs1 ht hWt hpost _ _ hS => (hpost.2 x rfl).elim)
      rcases hpost.1 _ rfl with ⟨t_tr275, t_dp276, t_zi277, hv, c278, c278_0, hI1⟩ | ⟨t_dp279, t_zi280, f_mf281, hv, c282, c282_0, hI1⟩
      · cases hv
        have hI : sI (dC, dI) vcl cI cJ (gsM a th t_tr275 t_dp276 t_zi277 co sh lt ts mf) A s.heap H1 locs1 := ⟨by rw [← ht]; exact hI1, hS⟩
        obtain ⟨-, ⟨o283, o284⟩, ⟨o285, o286⟩, ⟨o287, o288⟩, -, -, -, -, -⟩ := id c278
        clear hpost hI1 hS ht hWt
        revert hI; generalize H1 = H; generalize locs1 = locs; intro hI
        refine lv_goto (tgt := 220) hx hb d_Mo_first_17 (by decide) ?_
        subst hZ
        exact tz_ret (W.vret hx hb hr (fun t ht hW => ⟨⟨fun v9 hv9 => by cases hv9; exact (Or.inl ⟨t_tr275, t_dp276, t_zi277, sh, mf, rfl, c278, by omega, by omega, by rw [ht]; exact hI.1⟩), fun x9 hx9 => (by cases hx9)⟩, hI.2.F ht⟩) hI.2.2.2 d_Mo_first_220)
      · cases hv
        have hI : sI (dC, dI) vcl cI cJ (gsM a th tr t_dp279 t_zi280 co sh lt ts f_mf281) A s.heap H1 locs1 := ⟨by rw [← ht]; exact hI1, hS⟩
        obtain ⟨-, -, ⟨o289, o290⟩, ⟨o291, o292⟩, -, -, -, -, -⟩ := id c282
        clear hpost hI1 hS ht hWt
        revert hI; generalize H1 = H; generalize locs1 = locs; intro hI
        refine lv_goto (tgt := 220) hx hb d_Mo_first_17 (by decide) ?_
        subst hZ
        exact tz_ret (W.vret hx hb hr (fun t ht hW => ⟨⟨fun v9 hv9 => by cases hv9; exact (Or.inr (Or.inr (⟨t_dp279, t_zi280, sh, f_mf281, rfl, c282, by omega, by omega, by rw [ht]; exact hI.1⟩))), fun x9 hx9 => (by cases hx9)⟩, hI.2.F ht⟩) hI.2.2.2 d_Mo_first_220)
