abbrev q_Mo_manyList (dC : Nat → ClassId) (dI : Nat → Nat → Nat) (cI cJ : ClassId) (a : Nat → Nat) (th tr dp zi co sh lt ts : Int) (mf : Nat → Int32) (x1 : Int32) (x2 : Int32) (x3 : Int32) (x4 : Int32) : Outcome → State → Prop := fun o t => (∀ v, o = .returned v → ((∃ (tr_ zi_ lt_ : Int) (mf_ : Nat → Int32), v = none ∧ okM th tr_ dp zi_ co sh lt_ ts mf_ ∧ (1 ≤ tr_) ∧ sh_I (dC, dI) vcl cI cJ (gsM a th tr_ dp zi_ co sh lt_ ts mf_) t.heap) ∨ (v = none ∧ okM th tr dp zi co sh lt ts mf ∧ (6 ≤ x1.toInt) ∧ (x1.toInt ≤ 6) ∧ sh_I (dC, dI) vcl cI cJ (gsM a th tr dp zi co sh lt ts mf) t.heap) ∨ (∃ (dp_ zi_ sh_ lt_ : Int) (mf_ : Nat → Int32), v = none ∧ okM th tr dp_ zi_ co sh_ lt_ ts mf_ ∧ (tr ≤ 0) ∧ (sh_ ≤ sh + 10010) ∧ sh_I (dC, dI) vcl cI cJ (gsM a th tr dp_ zi_ co sh_ lt_ ts mf_) t.heap))) ∧ (∀ x, o = .threw x → (False))
def rm_Mo_manyList : Room := { frames := 8, cells := 0, slots := 0, locals := 181 }
set_option maxHeartbeats 4000000 in
set_option maxRecDepth 100000 in
theorem c_Mo_manyList (l : Launch) (hfl : l.flags = pinnedFlags ++ [noTraceFlag]) (dC : Nat → ClassId) (dI : Nat → Nat → Nat) (cI cJ : ClassId) (a : Nat → Nat) (sz : Nat) (th tr dp zi co sh lt ts : Int) (mf : Nat → Int32) (x1 : Int32) (x2 : Int32) (x3 : Int32) (x4 : Int32) (hok : okM th tr dp zi co sh lt ts mf) (hp0 : 0 ≤ x1.toInt) (hp1 : x1.toInt ≤ 31) (hp2 : 0 ≤ x2.toInt) (hp3 : x2.toInt ≤ 65535) (hp4 : 0 ≤ x3.toInt) (hp5 : x3.toInt ≤ 65535) (hp6 : 0 ≤ x4.toInt) (hp7 : x4.toInt ≤ 65535) (hp8 : sh ≤ 1999989990) : tz_Met l ⟨"StoryMachineModel", "manyList", "(IIII)V"⟩ tw_tbl rm_Mo_manyList (tzP (dC, dI) vcl cI cJ (gsM a th tr dp zi co sh lt ts mf) a (adM a) [.ref (a 0), .int x1, .int x2, .int x3, .int x4] sz) (tq_Q (q_Mo_manyList dC dI cI cJ a th tr dp zi co sh lt ts mf x1 x2 x3 x4) (ga (adM a) sz)) 0 0 0 0 (ga (adM a) sz) := by
  refine tz_ofW (cc := prog_13_method_59_code) (maxL := 5) (ret := none) (by decide) (tx_isM mw_1440) ?_
  intro p e s m args below meth c s₁ B hml hv
  obtain ⟨rfl, hsz, hI0, hK, hst0⟩ := hv
  have hx := B.exec
  have hb := B.bytes
  have hr := B.returns
  have hts := atoms_spec (ws := tw_tbl) B.pre
  have hown : s.vm.findClass "StoryMachineModel" = some m.cls := findClass_of_methodNamed B.named
  have hlocks := B.notSynchronized
  subst hsz
  have hst := fun (H : Heap) (locs : List Loc) (hS : va_S (ga (adM a) s.heap.size) s.heap H locs) (U : State) (hU : U.heap = H) (hW : s.WarmedH U.vm) => zS_all adM_map hI0 hst0 hS hU hW
  have hAC : ∀ q ∈ adM a, ga (adM a) s.heap.size q := fun q h => Or.inl h
  have hA0 : ∀ q, s.heap.size ≤ q → ga (adM a) s.heap.size q := fun q h => Or.inr h
  have hI : sI (dC, dI) vcl cI cJ (gsM a th tr dp zi co sh lt ts mf) (ga (adM a) s.heap.size) s.heap s.heap [] := ⟨hI0, va_S.rf⟩
  clear hI0 hst0
  have hl := lv_entry ([.ref (a 0), .int x1, .int x2, .int x3, .int x4]) (n := 5) (Nat.le_of_ble_eq_true rfl)
  rw [lg_entry_eq]
  generalize (lg_sl ([.ref (a 0), .int x1, .int x2, .int x3, .int x4]) ++ List.replicate (5 - (lg_sl ([.ref (a 0), .int x1, .int x2, .int x3, .int x4])).length) Slot.unset).toArray = ls at hl ⊢
  have hl : lv_has ls 5 [(0, .ref (a 0)), (1, .int x1), (2, .int x2), (3, .int x3), (4, .int x4)] := hl
  generalize hZ : tz_MQ below (tq_Q (q_Mo_manyList dC dI cI cJ a th tr dp zi co sh lt ts mf x1 x2 x3 x4) (ga (adM a) s.heap.size)) ([.ref (a 0), .int x1, .int x2, .int x3, .int x4] : List Value).toArray s 0 0 0 0 (ga (adM a) s.heap.size) = Z
  obtain ⟨A, hAe⟩ : ∃ A, A = ga (adM a) s.heap.size := ⟨_, rfl⟩
  rw [← hAe] at hst hAC hA0 hI hZ
  refine sv_start hI (fun H locs hI => ?_)
  obtain ⟨⟨o1, o2⟩, ⟨o3, o4⟩, ⟨o5, o6⟩, ⟨o7, o8⟩, ⟨o9, o10⟩, ⟨o11, o12⟩, ⟨o13, o14⟩, ⟨o15, o16⟩, -⟩ := id hok
  have gx1 := sn_rng x1
  have gx2 := sn_rng x2
  have gx3 := sn_rng x3
  have gx4 := sn_rng x4
  refine lv_iload_n hx hb d_Mo_manyList_0 rfl (lv_at hl 1 rfl) ?_
  refine sn_if_ne (tgt := 11) hx hb d_Mo_manyList_1 (by decide) (fun b17 => ?_) (fun b17 => ?_)
  · refine lv_iload_n hx hb d_Mo_manyList_11 rfl (lv_at hl 1 rfl) ?_
    refine sn_iconst hx hb d_Mo_manyList_12 (by decide) (fun z18 hz18 => ?_)
    refine sn_icmp_ne (tgt := 30) hx hb d_Mo_manyList_13 (by decide) (fun b19 => ?_) (fun b19 => ?_)
    · refine lv_iload_n hx hb d_Mo_manyList_30 rfl (lv_at hl 1 rfl) ?_
      refine sn_iconst hx hb d_Mo_manyList_31 (by decide) (fun z20 hz20 => ?_)
      refine sn_icmp_ne (tgt := 47) hx hb d_Mo_manyList_32 (by decide) (fun b21 => ?_) (fun b21 => ?_)
      · refine lv_iload_n hx hb d_Mo_manyList_47 rfl (lv_at hl 1 rfl) ?_
        refine sn_iconst hx hb d_Mo_manyList_48 (by decide) (fun z22 hz22 => ?_)
        refine sn_icmp_ne (tgt := 63) hx hb d_Mo_manyList_49 (by decide) (fun b23 => ?_) (fun b23 => ?_)
        · refine lv_iload_n hx hb d_Mo_manyList_63 rfl (lv_at hl 1 rfl) ?_
          refine sn_iconst hx hb d_Mo_manyList_64 (by decide) (fun z24 hz24 => ?_)
          refine sn_icmp_ne (tgt := 77) hx hb d_Mo_manyList_65 (by decide) (fun b25 => ?_) (fun b25 => ?_)
          · refine lv_iload_n hx hb d_Mo_manyList_77 rfl (lv_at hl 1 rfl) ?_
            refine sn_iconst hx hb d_Mo_manyList_78 (by decide) (fun z26 hz26 => ?_)
            refine sn_icmp_ne (tgt := 94) hx hb d_Mo_manyList_79 (by decide) (fun b27 => ?_) (fun b27 => ?_)
            · refine lv_iload_n hx hb d_Mo_manyList_94 rfl (lv_at hl 1 rfl) ?_
              refine sn_bipush hx hb d_Mo_manyList_95 (by decide) (fun z28 hz28 => ?_)
              refine sn_icmp_ne (tgt := 111) hx hb d_Mo_manyList_97 (by decide) (fun b29 => ?_) (fun b29 => ?_)
              · refine lv_iload_n hx hb d_Mo_manyList_111 rfl (lv_at hl 1 rfl) ?_
                refine sn_bipush hx hb d_Mo_manyList_112 (by decide) (fun z30 hz30 => ?_)
                refine sn_icmp_ne (tgt := 128) hx hb d_Mo_manyList_114 (by decide) (fun b31 => ?_) (fun b31 => ?_)
                · refine lv_iload_n hx hb d_Mo_manyList_128 rfl (lv_at hl 1 rfl) ?_
                  refine sn_bipush hx hb d_Mo_manyList_129 (by decide) (fun z32 hz32 => ?_)
                  refine sn_icmp_ne (tgt := 142) hx hb d_Mo_manyList_131 (by decide) (fun b33 => ?_) (fun b33 => ?_)
                  · refine lv_aload_n hx hb d_Mo_manyList_142 rfl (lv_at hl 0 rfl) ?_
                    refine lv_iload_n hx hb d_Mo_manyList_143 rfl (lv_at hl 2 rfl) ?_
                    refine lv_aload_n hx hb d_Mo_manyList_144 rfl (lv_at hl 0 rfl) ?_
                    refine tz_call (A1 := ga (adM a) H.size) (tz_runV (C := "StoryMachineModel") (As := []) (rest := [.int x2, .ref (a 0)]) ⟨hx, hb, hml, hown, hts⟩ (c_Mo_pop l hfl dC dI cI cJ a H.size th tr dp zi co sh lt ts mf  hok) (tx_cb (n := 0) hts rfl rfl ⟨Nat.le_of_ble_eq_true rfl, Nat.le_of_ble_eq_true rfl⟩ (tx_code.of (hts _ mw_1260)) (hts _ mw_12) (by decide +kernel) (hts _ mw_1257)) (hts _ mw_1259) (hts _ ms_Mo_pop) ⟨tz_blind, sv_recv (q0 := 0) hts in_Mo hK hI kM_0 rfl, fun U hU hW => ⟨rfl, by rw [hU], by rw [hU]; exact hI.1, va_K.moved hW.alike hK, hst _ _ hI.2 U hU hW⟩⟩ rfl rfl hl.1 rfl (lv_room (Nat.le_of_ble_eq_true rfl)) d_Mo_manyList_145 ⟨Nat.le_of_ble_eq_true rfl, Nat.le_of_ble_eq_true rfl⟩) hI.2 (fun q _ h => ga_sub hAC hA0 hI.2 q h) (ga_sub hAC hA0 hI.2) (fun v t H1 locs1 ht hWt hpost _ _ hS => ?_) (fun x t H1 locs1 ht hWt hpost _ _ hS => (hpost.2 x rfl).elim)
                    rcases hpost.1 _ rfl with ⟨z34, t_tr35, hv, c36, c36_0, c36_1, c36_2, hI1⟩ | ⟨z37, t_zi38, hv, c39, c39_0, c39_1, c39_2, c39_3, c39_4, hI1⟩
                    · cases hv
                      have hI : sI (dC, dI) vcl cI cJ (gsM a th t_tr35 dp zi co sh lt ts mf) A s.heap H1 locs1 := ⟨by rw [← ht]; exact hI1, hS⟩
                      obtain ⟨-, ⟨o40, o41⟩, -, -, -, -, -, -, -⟩ := id c36
                      clear hpost hI1 hS ht hWt
                      revert hI; generalize H1 = H; generalize locs1 = locs; intro hI
                      refine tz_call (A1 := ga (adM a) H.size) (tz_runV (C := "StoryMachineModel") (As := [.int x2, .int z34]) (rest := []) ⟨hx, hb, hml, hown, hts⟩ (c_Mo_replaceIf l hfl dC dI cI cJ a H.size th t_tr35 dp zi co sh lt ts mf x2 z34 c36) (tx_cb (n := 2) hts rfl rfl ⟨Nat.le_of_ble_eq_true rfl, Nat.le_of_ble_eq_true rfl⟩ (tx_code.of (hts _ mw_1496)) (hts _ mw_12) (by decide +kernel) (hts _ mw_1493)) (hts _ mw_1495) (hts _ ms_Mo_replaceIf) ⟨tz_blind, sv_recv (q0 := 0) hts in_Mo hK hI kM_0 rfl, fun U hU hW => ⟨rfl, by rw [hU], by rw [hU]; exact hI.1, va_K.moved hW.alike hK, hst _ _ hI.2 U hU hW⟩⟩ rfl rfl hl.1 rfl (lv_room (Nat.le_of_ble_eq_true rfl)) d_Mo_manyList_148 ⟨Nat.le_of_ble_eq_true rfl, Nat.le_of_ble_eq_true rfl⟩) hI.2 (fun q _ h => ga_sub hAC hA0 hI.2 q h) (ga_sub hAC hA0 hI.2) (fun v t H1 locs1 ht hWt hpost _ _ hS => ?_) (fun x t H1 locs1 ht hWt hpost _ _ hS => (hpost.2 x rfl).elim)
                      rcases hpost.1 _ rfl with ⟨t_tr42, hv, c43, c43_0, hI1⟩ | ⟨f_mf44, hv, c45, c45_0, c45_1, hI1⟩
                      · cases hv
                        have hI : sI (dC, dI) vcl cI cJ (gsM a th t_tr42 dp zi co sh lt ts mf) A s.heap H1 locs1 := ⟨by rw [← ht]; exact hI1, hS⟩
                        obtain ⟨-, ⟨o46, o47⟩, -, -, -, -, -, -, -⟩ := id c43
                        clear hpost hI1 hS ht hWt
                        revert hI; generalize H1 = H; generalize locs1 = locs; intro hI
                        subst hZ
                        exact tz_ret (W.vret hx hb hr (fun t ht hW => ⟨⟨fun v9 hv9 => by cases hv9; exact (Or.inl ⟨t_tr42, zi, lt, mf, rfl, c43, by omega, by rw [ht]; exact hI.1⟩), fun x9 hx9 => (by cases hx9)⟩, hI.2.F ht⟩) hI.2.2.2 d_Mo_manyList_151)
                      · omega
                    · cases hv
                      have hI : sI (dC, dI) vcl cI cJ (gsM a th tr dp t_zi38 co sh lt ts mf) A s.heap H1 locs1 := ⟨by rw [← ht]; exact hI1, hS⟩
                      obtain ⟨-, -, -, ⟨o48, o49⟩, -, -, -, -, -⟩ := id c39
                      clear hpost hI1 hS ht hWt
                      revert hI; generalize H1 = H; generalize locs1 = locs; intro hI
                      refine tz_call (A1 := ga (adM a) H.size) (tz_runV (C := "StoryMachineModel") (As := [.int x2, .int z37]) (rest := []) ⟨hx, hb, hml, hown, hts⟩ (c_Mo_replaceIf l hfl dC dI cI cJ a H.size th tr dp t_zi38 co sh lt ts mf x2 z37 c39) (tx_cb (n := 2) hts rfl rfl ⟨Nat.le_of_ble_eq_true rfl, Nat.le_of_ble_eq_true rfl⟩ (tx_code.of (hts _ mw_1496)) (hts _ mw_12) (by decide +kernel) (hts _ mw_1493)) (hts _ mw_1495) (hts _ ms_Mo_replaceIf) ⟨tz_blind, sv_recv (q0 := 0) hts in_Mo hK hI kM_0 rfl, fun U hU hW => ⟨rfl, by rw [hU], by rw [hU]; exact hI.1, va_K.moved hW.alike hK, hst _ _ hI.2 U hU hW⟩⟩ rfl rfl hl.1 rfl (lv_room (Nat.le_of_ble_eq_true rfl)) d_Mo_manyList_148 ⟨Nat.le_of_ble_eq_true rfl, Nat.le_of_ble_eq_true rfl⟩) hI.2 (fun q _ h => ga_sub hAC hA0 hI.2 q h) (ga_sub hAC hA0 hI.2) (fun v t H1 locs1 ht hWt hpost _ _ hS => ?_) (fun x t H1 locs1 ht hWt hpost _ _ hS => (hpost.2 x rfl).elim)
                      rcases hpost.1 _ rfl with ⟨t_tr50, hv, c51, c51_0, hI1⟩ | ⟨f_mf52, hv, c53, c53_0, c53_1, hI1⟩
                      · cases hv
                        have hI : sI (dC, dI) vcl cI cJ (gsM a th t_tr50 dp t_zi38 co sh lt ts mf) A s.heap H1 locs1 := ⟨by rw [← ht]; exact hI1, hS⟩
                        obtain ⟨-, ⟨o54, o55⟩, -, -, -, -, -, -, -⟩ := id c51
                        clear hpost hI1 hS ht hWt
                        revert hI; generalize H1 = H; generalize locs1 = locs; intro hI
                        subst hZ
                        exact tz_ret (W.vret hx hb hr (fun t ht hW => ⟨⟨fun v9 hv9 => by cases hv9; exact (Or.inl ⟨t_tr50, t_zi38, lt, mf, rfl, c51, by omega, by rw [ht]; exact hI.1⟩), fun x9 hx9 => (by cases hx9)⟩, hI.2.F ht⟩) hI.2.2.2 d_Mo_manyList_151)
                      · cases hv
                        have hI : sI (dC, dI) vcl cI cJ (gsM a th tr dp t_zi38 co sh lt ts f_mf52) A s.heap H1 locs1 := ⟨by rw [← ht]; exact hI1, hS⟩
                        obtain ⟨-, -, -, -, -, -, -, -, -⟩ := id c53
                        clear hpost hI1 hS ht hWt
                        revert hI; generalize H1 = H; generalize locs1 = locs; intro hI
                        subst hZ
                        exact tz_ret (W.vret hx hb hr (fun t ht hW => ⟨⟨fun v9 hv9 => by cases hv9; exact (Or.inr (Or.inr (⟨dp, t_zi38, sh, lt, f_mf52, rfl, c53, by omega, by omega, by rw [ht]; exact hI.1⟩))), fun x9 hx9 => (by cases hx9)⟩, hI.2.F ht⟩) hI.2.2.2 d_Mo_manyList_151)
                  · refine lv_aload_n hx hb d_Mo_manyList_134 rfl (lv_at hl 0 rfl) ?_
                    refine lv_iload_n hx hb d_Mo_manyList_135 rfl (lv_at hl 2 rfl) ?_
                    refine tz_call (A1 := ga (adM a) H.size) (tz_runV (C := "StoryMachineModel") (As := [.int x2]) (rest := []) ⟨hx, hb, hml, hown, hts⟩ (c_Mo_push l hfl dC dI cI cJ a H.size th tr dp zi co sh lt ts mf x2 hok) (tx_cb (n := 1) hts rfl rfl ⟨Nat.le_of_ble_eq_true rfl, Nat.le_of_ble_eq_true rfl⟩ (tx_code.of (hts _ mw_1300)) (hts _ mw_12) (by decide +kernel) (hts _ mw_1297)) (hts _ mw_1299) (hts _ ms_Mo_push) ⟨tz_blind, sv_recv (q0 := 0) hts in_Mo hK hI kM_0 rfl, fun U hU hW => ⟨rfl, by rw [hU], by rw [hU]; exact hI.1, va_K.moved hW.alike hK, hst _ _ hI.2 U hU hW⟩⟩ rfl rfl hl.1 rfl (lv_room (Nat.le_of_ble_eq_true rfl)) d_Mo_manyList_136 ⟨Nat.le_of_ble_eq_true rfl, Nat.le_of_ble_eq_true rfl⟩) hI.2 (fun q _ h => ga_sub hAC hA0 hI.2 q h) (ga_sub hAC hA0 hI.2) (fun v t H1 locs1 ht hWt hpost _ _ hS => ?_) (fun x t H1 locs1 ht hWt hpost _ _ hS => (hpost.2 x rfl).elim)
                    rcases hpost.1 _ rfl with ⟨t_tr56, hv, c57, c57_0, hI1⟩ | ⟨t_zi58, hv, c59, c59_0, c59_1, c59_2, hI1⟩
                    · cases hv
                      have hI : sI (dC, dI) vcl cI cJ (gsM a th t_tr56 dp zi co sh lt ts mf) A s.heap H1 locs1 := ⟨by rw [← ht]; exact hI1, hS⟩
                      obtain ⟨-, ⟨o60, o61⟩, -, -, -, -, -, -, -⟩ := id c57
                      clear hpost hI1 hS ht hWt
                      revert hI; generalize H1 = H; generalize locs1 = locs; intro hI
                      refine lv_goto (tgt := 151) hx hb d_Mo_manyList_139 (by decide) ?_
                      subst hZ
                      exact tz_ret (W.vret hx hb hr (fun t ht hW => ⟨⟨fun v9 hv9 => by cases hv9; exact (Or.inl ⟨t_tr56, zi, lt, mf, rfl, c57, by omega, by rw [ht]; exact hI.1⟩), fun x9 hx9 => (by cases hx9)⟩, hI.2.F ht⟩) hI.2.2.2 d_Mo_manyList_151)
                    · cases hv
                      have hI : sI (dC, dI) vcl cI cJ (gsM a th tr dp t_zi58 co sh lt ts mf) A s.heap H1 locs1 := ⟨by rw [← ht]; exact hI1, hS⟩
                      obtain ⟨-, -, -, ⟨o62, o63⟩, -, -, -, -, -⟩ := id c59
                      clear hpost hI1 hS ht hWt
                      revert hI; generalize H1 = H; generalize locs1 = locs; intro hI
                      refine lv_goto (tgt := 151) hx hb d_Mo_manyList_139 (by decide) ?_
                      subst hZ
                      exact tz_ret (W.vret hx hb hr (fun t ht hW => ⟨⟨fun v9 hv9 => by cases hv9; exact (Or.inr (Or.inr (⟨dp, t_zi58, sh, lt, mf, rfl, c59, by omega, by omega, by rw [ht]; exact hI.1⟩))), fun x9 hx9 => (by cases hx9)⟩, hI.2.F ht⟩) hI.2.2.2 d_Mo_manyList_151)
                · refine lv_aload_n hx hb d_Mo_manyList_117 rfl (lv_at hl 0 rfl) ?_
                  refine lv_iload_n hx hb d_Mo_manyList_118 rfl (lv_at hl 2 rfl) ?_
                  refine tz_call (A1 := ga (adM a) H.size) (tz_runS (As := [.int x2]) (rest := [.ref (a 0)]) ⟨hx, hb, hml, hown, hts⟩ (c_Mo_signed l hfl dC dI cI cJ a H.size th tr dp zi co sh lt ts mf x2 hok) (tx_cb (n := 1) hts rfl rfl ⟨Nat.le_of_ble_eq_true rfl, Nat.le_of_ble_eq_true rfl⟩ (tx_code.of (hts _ mw_1316)) (hts _ mw_12) (by decide +kernel) (hts _ mw_1314)) (hts _ mw_1315) ⟨tz_blind, fun U hU hW => ⟨rfl, by rw [hU], by rw [hU]; exact hI.1, va_K.moved hW.alike hK, hst _ _ hI.2 U hU hW⟩⟩ rfl rfl hl.1 rfl (lv_room (Nat.le_of_ble_eq_true rfl)) d_Mo_manyList_119 ⟨Nat.le_of_ble_eq_true rfl, Nat.le_of_ble_eq_true rfl⟩) hI.2 (fun q _ h => ga_sub hAC hA0 hI.2 q h) (ga_sub hAC hA0 hI.2) (fun v t H1 locs1 ht hWt hpost _ _ hS => ?_) (fun x t H1 locs1 ht hWt hpost _ _ hS => (hpost.2 x rfl).elim)
                  rcases hpost.1 _ rfl with ⟨z64, hv, c65, c65_0, c65_1, c65_2, hI1⟩
                  cases hv
                  have hI : sI (dC, dI) vcl cI cJ (gsM a th tr dp zi co sh lt ts mf) A s.heap H1 locs1 := ⟨by rw [← ht]; exact hI1, hS⟩
                  clear hpost hI1 hS ht hWt
                  revert hI; generalize H1 = H; generalize locs1 = locs; intro hI
                  refine tz_call (A1 := ga (adM a) H.size) (tz_runV (C := "StoryMachineModel") (As := [.int z64]) (rest := []) ⟨hx, hb, hml, hown, hts⟩ (c_Mo_draw l hfl dC dI cI cJ a H.size th tr dp zi co sh lt ts mf z64 c65 (by omega) (by omega)) (tx_cb (n := 1) hts rfl rfl ⟨Nat.le_of_ble_eq_true rfl, Nat.le_of_ble_eq_true rfl⟩ (tx_code.of (hts _ mw_1492)) (hts _ mw_12) (by decide +kernel) (hts _ mw_1489)) (hts _ mw_1491) (hts _ ms_Mo_draw) ⟨tz_blind, sv_recv (q0 := 0) hts in_Mo hK hI kM_0 rfl, fun U hU hW => ⟨rfl, by rw [hU], by rw [hU]; exact hI.1, va_K.moved hW.alike hK, hst _ _ hI.2 U hU hW⟩⟩ rfl rfl hl.1 rfl (lv_room (Nat.le_of_ble_eq_true rfl)) d_Mo_manyList_122 ⟨Nat.le_of_ble_eq_true rfl, Nat.le_of_ble_eq_true rfl⟩) hI.2 (fun q _ h => ga_sub hAC hA0 hI.2 q h) (ga_sub hAC hA0 hI.2) (fun v t H1 locs1 ht hWt hpost _ _ hS => ?_) (fun x t H1 locs1 ht hWt hpost _ _ hS => (hpost.2 x rfl).elim)
                  rcases hpost.1 _ rfl with ⟨t_tr66, hv, c67, c67_0, hI1⟩ | ⟨t_zi68, f_mf69, hv, c70, c70_0, hI1⟩
                  · cases hv
                    have hI : sI (dC, dI) vcl cI cJ (gsM a th t_tr66 dp zi co sh lt ts mf) A s.heap H1 locs1 := ⟨by rw [← ht]; exact hI1, hS⟩
                    obtain ⟨-, ⟨o71, o72⟩, -, -, -, -, -, -, -⟩ := id c67
                    clear hpost hI1 hS ht hWt
                    revert hI; generalize H1 = H; generalize locs1 = locs; intro hI
                    refine lv_goto (tgt := 151) hx hb d_Mo_manyList_125 (by decide) ?_
                    subst hZ
                    exact tz_ret (W.vret hx hb hr (fun t ht hW => ⟨⟨fun v9 hv9 => by cases hv9; exact (Or.inl ⟨t_tr66, zi, lt, mf, rfl, c67, by omega, by rw [ht]; exact hI.1⟩), fun x9 hx9 => (by cases hx9)⟩, hI.2.F ht⟩) hI.2.2.2 d_Mo_manyList_151)
                  · cases hv
                    have hI : sI (dC, dI) vcl cI cJ (gsM a th tr dp t_zi68 co sh lt ts f_mf69) A s.heap H1 locs1 := ⟨by rw [← ht]; exact hI1, hS⟩
                    obtain ⟨-, -, -, ⟨o73, o74⟩, -, -, -, -, -⟩ := id c70
                    clear hpost hI1 hS ht hWt
                    revert hI; generalize H1 = H; generalize locs1 = locs; intro hI
                    refine lv_goto (tgt := 151) hx hb d_Mo_manyList_125 (by decide) ?_
                    subst hZ
                    exact tz_ret (W.vret hx hb hr (fun t ht hW => ⟨⟨fun v9 hv9 => by cases hv9; exact (Or.inr (Or.inr (⟨dp, t_zi68, sh, lt, f_mf69, rfl, c70, by omega, by omega, by rw [ht]; exact hI.1⟩))), fun x9 hx9 => (by cases hx9)⟩, hI.2.F ht⟩) hI.2.2.2 d_Mo_manyList_151)
              · refine lv_aload_n hx hb d_Mo_manyList_100 rfl (lv_at hl 0 rfl) ?_
                refine lv_iload_n hx hb d_Mo_manyList_101 rfl (lv_at hl 2 rfl) ?_
                refine tz_call (A1 := ga (adM a) H.size) (tz_runS (As := [.int x2]) (rest := [.ref (a 0)]) ⟨hx, hb, hml, hown, hts⟩ (c_Mo_signed l hfl dC dI cI cJ a H.size th tr dp zi co sh lt ts mf x2 hok) (tx_cb (n := 1) hts rfl rfl ⟨Nat.le_of_ble_eq_true rfl, Nat.le_of_ble_eq_true rfl⟩ (tx_code.of (hts _ mw_1316)) (hts _ mw_12) (by decide +kernel) (hts _ mw_1314)) (hts _ mw_1315) ⟨tz_blind, fun U hU hW => ⟨rfl, by rw [hU], by rw [hU]; exact hI.1, va_K.moved hW.alike hK, hst _ _ hI.2 U hU hW⟩⟩ rfl rfl hl.1 rfl (lv_room (Nat.le_of_ble_eq_true rfl)) d_Mo_manyList_102 ⟨Nat.le_of_ble_eq_true rfl, Nat.le_of_ble_eq_true rfl⟩) hI.2 (fun q _ h => ga_sub hAC hA0 hI.2 q h) (ga_sub hAC hA0 hI.2) (fun v t H1 locs1 ht hWt hpost _ _ hS => ?_) (fun x t H1 locs1 ht hWt hpost _ _ hS => (hpost.2 x rfl).elim)
                rcases hpost.1 _ rfl with ⟨z75, hv, c76, c76_0, c76_1, c76_2, hI1⟩
                cases hv
                have hI : sI (dC, dI) vcl cI cJ (gsM a th tr dp zi co sh lt ts mf) A s.heap H1 locs1 := ⟨by rw [← ht]; exact hI1, hS⟩
                clear hpost hI1 hS ht hWt
                revert hI; generalize H1 = H; generalize locs1 = locs; intro hI
                refine tz_call (A1 := ga (adM a) H.size) (tz_runV (C := "StoryMachineModel") (As := [.int z75]) (rest := []) ⟨hx, hb, hml, hown, hts⟩ (c_Mo_showNumber l hfl dC dI cI cJ a H.size th tr dp zi co sh lt ts mf z75 c76 (by omega) (by omega) (by omega)) (tx_cb (n := 1) hts rfl rfl ⟨Nat.le_of_ble_eq_true rfl, Nat.le_of_ble_eq_true rfl⟩ (tx_code.of (hts _ mw_1488)) (hts _ mw_12) (by decide +kernel) (hts _ mw_1485)) (hts _ mw_1487) (hts _ ms_Mo_showNumber) ⟨tz_blind, sv_recv (q0 := 0) hts in_Mo hK hI kM_0 rfl, fun U hU hW => ⟨rfl, by rw [hU], by rw [hU]; exact hI.1, va_K.moved hW.alike hK, hst _ _ hI.2 U hU hW⟩⟩ rfl rfl hl.1 rfl (lv_room (Nat.le_of_ble_eq_true rfl)) d_Mo_manyList_105 ⟨Nat.le_of_ble_eq_true rfl, Nat.le_of_ble_eq_true rfl⟩) hI.2 (fun q _ h => ga_sub hAC hA0 hI.2 q h) (ga_sub hAC hA0 hI.2) (fun v t H1 locs1 ht hWt hpost _ _ hS => ?_) (fun x t H1 locs1 ht hWt hpost _ _ hS => (hpost.2 x rfl).elim)
                rcases hpost.1 _ rfl with ⟨hv, c77, c77_0, hI1⟩ | ⟨hv, c78, c78_0, hI1⟩ | ⟨t_sh79, hv, c80, c80_0, c80_1, c80_2, hI1⟩
                · cases hv
                  have hI : sI (dC, dI) vcl cI cJ (gsM a th tr dp zi co sh lt ts mf) A s.heap H1 locs1 := ⟨by rw [← ht]; exact hI1, hS⟩
                  clear hpost hI1 hS ht hWt
                  revert hI; generalize H1 = H; generalize locs1 = locs; intro hI
                  refine lv_goto (tgt := 151) hx hb d_Mo_manyList_108 (by decide) ?_
                  subst hZ
                  exact tz_ret (W.vret hx hb hr (fun t ht hW => ⟨⟨fun v9 hv9 => by cases hv9; exact (Or.inl ⟨tr, zi, lt, mf, rfl, c77, by omega, by rw [ht]; exact hI.1⟩), fun x9 hx9 => (by cases hx9)⟩, hI.2.F ht⟩) hI.2.2.2 d_Mo_manyList_151)
                · cases hv
                  have hI : sI (dC, dI) vcl cI cJ (gsM a th tr dp zi co sh lt ts mf) A s.heap H1 locs1 := ⟨by rw [← ht]; exact hI1, hS⟩
                  clear hpost hI1 hS ht hWt
                  revert hI; generalize H1 = H; generalize locs1 = locs; intro hI
                  refine lv_goto (tgt := 151) hx hb d_Mo_manyList_108 (by decide) ?_
                  subst hZ
                  exact tz_ret (W.vret hx hb hr (fun t ht hW => ⟨⟨fun v9 hv9 => by cases hv9; exact (Or.inr (Or.inl ⟨rfl, c78, by omega, by omega, by rw [ht]; exact hI.1⟩)), fun x9 hx9 => (by cases hx9)⟩, hI.2.F ht⟩) hI.2.2.2 d_Mo_manyList_151)
                · cases hv
                  have hI : sI (dC, dI) vcl cI cJ (gsM a th tr dp zi co t_sh79 lt ts mf) A s.heap H1 locs1 := ⟨by rw [← ht]; exact hI1, hS⟩
                  obtain ⟨-, -, -, -, -, ⟨o81, o82⟩, -, -, -⟩ := id c80
                  clear hpost hI1 hS ht hWt
                  revert hI; generalize H1 = H; generalize locs1 = locs; intro hI
                  refine lv_goto (tgt := 151) hx hb d_Mo_manyList_108 (by decide) ?_
                  subst hZ
                  exact tz_ret (W.vret hx hb hr (fun t ht hW => ⟨⟨fun v9 hv9 => by cases hv9; exact (Or.inr (Or.inr (⟨dp, zi, t_sh79, lt, mf, rfl, c80, by omega, by omega, by rw [ht]; exact hI.1⟩))), fun x9 hx9 => (by cases hx9)⟩, hI.2.F ht⟩) hI.2.2.2 d_Mo_manyList_151)
            · refine lv_aload_n hx hb d_Mo_manyList_82 rfl (lv_at hl 0 rfl) ?_
              refine lv_iload_n hx hb d_Mo_manyList_83 rfl (lv_at hl 2 rfl) ?_
              refine sn_sipush hx hb d_Mo_manyList_84 (by decide) (fun z83 hz83 => ?_)
              refine sn_iand (k := 8) (M := 255) hx hb d_Mo_manyList_87 (by decide) (by decide) (by omega) (fun z84 hz84a hz84b hz84c => ?_)
              clear hz84c
              refine tz_call (A1 := ga (adM a) H.size) (tz_runV (C := "StoryMachineModel") (As := [.int z84]) (rest := []) ⟨hx, hb, hml, hown, hts⟩ (c_Mo_show l hfl dC dI cI cJ a H.size th tr dp zi co sh lt ts mf z84 hok (by omega)) (tx_cb (n := 1) hts rfl rfl ⟨Nat.le_of_ble_eq_true rfl, Nat.le_of_ble_eq_true rfl⟩ (tx_code.of (hts _ mw_1410)) (hts _ mw_12) (by decide +kernel) (hts _ mw_1407)) (hts _ mw_1409) (hts _ ms_Mo_show) ⟨tz_blind, sv_recv (q0 := 0) hts in_Mo hK hI kM_0 rfl, fun U hU hW => ⟨rfl, by rw [hU], by rw [hU]; exact hI.1, va_K.moved hW.alike hK, hst _ _ hI.2 U hU hW⟩⟩ rfl rfl hl.1 rfl (lv_room (Nat.le_of_ble_eq_true rfl)) d_Mo_manyList_88 ⟨Nat.le_of_ble_eq_true rfl, Nat.le_of_ble_eq_true rfl⟩) hI.2 (fun q _ h => ga_sub hAC hA0 hI.2 q h) (ga_sub hAC hA0 hI.2) (fun v t H1 locs1 ht hWt hpost _ _ hS => ?_) (fun x t H1 locs1 ht hWt hpost _ _ hS => (hpost.2 x rfl).elim)
              rcases hpost.1 _ rfl with ⟨hv, c85, c85_0, hI1⟩ | ⟨t_sh86, hv, c87, c87_0, c87_1, c87_2, hI1⟩
              · cases hv
                have hI : sI (dC, dI) vcl cI cJ (gsM a th tr dp zi co sh lt ts mf) A s.heap H1 locs1 := ⟨by rw [← ht]; exact hI1, hS⟩
                clear hpost hI1 hS ht hWt
                revert hI; generalize H1 = H; generalize locs1 = locs; intro hI
                refine lv_goto (tgt := 151) hx hb d_Mo_manyList_91 (by decide) ?_
                subst hZ
                exact tz_ret (W.vret hx hb hr (fun t ht hW => ⟨⟨fun v9 hv9 => by cases hv9; exact (Or.inl ⟨tr, zi, lt, mf, rfl, c85, by omega, by rw [ht]; exact hI.1⟩), fun x9 hx9 => (by cases hx9)⟩, hI.2.F ht⟩) hI.2.2.2 d_Mo_manyList_151)
              · cases hv
                have hI : sI (dC, dI) vcl cI cJ (gsM a th tr dp zi co t_sh86 lt ts mf) A s.heap H1 locs1 := ⟨by rw [← ht]; exact hI1, hS⟩
                obtain ⟨-, -, -, -, -, ⟨o88, o89⟩, -, -, -⟩ := id c87
                clear hpost hI1 hS ht hWt
                revert hI; generalize H1 = H; generalize locs1 = locs; intro hI
                refine lv_goto (tgt := 151) hx hb d_Mo_manyList_91 (by decide) ?_
                subst hZ
                exact tz_ret (W.vret hx hb hr (fun t ht hW => ⟨⟨fun v9 hv9 => by cases hv9; exact (Or.inr (Or.inr (⟨dp, zi, t_sh86, lt, mf, rfl, c87, by omega, by omega, by rw [ht]; exact hI.1⟩))), fun x9 hx9 => (by cases hx9)⟩, hI.2.F ht⟩) hI.2.2.2 d_Mo_manyList_151)
          · refine lv_aload_n hx hb d_Mo_manyList_68 rfl (lv_at hl 0 rfl) ?_
            refine lv_iload_n hx hb d_Mo_manyList_69 rfl (lv_at hl 2 rfl) ?_
            refine lv_iload_n hx hb d_Mo_manyList_70 rfl (lv_at hl 3 rfl) ?_
            refine tz_call (A1 := ga (adM a) H.size) (tz_runV (C := "StoryMachineModel") (As := [.int x2, .int x3]) (rest := []) ⟨hx, hb, hml, hown, hts⟩ (c_Mo_readLine l hfl dC dI cI cJ a H.size th tr dp zi co sh lt ts mf x2 x3 hok (by omega) (by omega) (by omega) (by omega)) (tx_cb (n := 2) hts rfl rfl ⟨Nat.le_of_ble_eq_true rfl, Nat.le_of_ble_eq_true rfl⟩ (tx_code.of (hts _ mw_1452)) (hts _ mw_12) (by decide +kernel) (hts _ mw_1449)) (hts _ mw_1451) (hts _ ms_Mo_readLine) ⟨tz_blind, sv_recv (q0 := 0) hts in_Mo hK hI kM_0 rfl, fun U hU hW => ⟨rfl, by rw [hU], by rw [hU]; exact hI.1, va_K.moved hW.alike hK, hst _ _ hI.2 U hU hW⟩⟩ rfl rfl hl.1 rfl (lv_room (Nat.le_of_ble_eq_true rfl)) d_Mo_manyList_71 ⟨Nat.le_of_ble_eq_true rfl, Nat.le_of_ble_eq_true rfl⟩) hI.2 (fun q _ h => ga_sub hAC hA0 hI.2 q h) (ga_sub hAC hA0 hI.2) (fun v t H1 locs1 ht hWt hpost _ _ hS => ?_) (fun x t H1 locs1 ht hWt hpost _ _ hS => (hpost.2 x rfl).elim)
            rcases hpost.1 _ rfl with ⟨t_tr90, t_lt91, f_mf92, hv, c93, c93_0, hI1⟩ | ⟨t_lt94, f_mf95, hv, c96, c96_0, c96_1, c96_2, hI1⟩
            · cases hv
              have hI : sI (dC, dI) vcl cI cJ (gsM a th t_tr90 dp zi co sh t_lt91 ts f_mf92) A s.heap H1 locs1 := ⟨by rw [← ht]; exact hI1, hS⟩
              obtain ⟨-, ⟨o97, o98⟩, -, -, -, -, ⟨o99, o100⟩, -, -⟩ := id c93
              clear hpost hI1 hS ht hWt
              revert hI; generalize H1 = H; generalize locs1 = locs; intro hI
              refine lv_goto (tgt := 151) hx hb d_Mo_manyList_74 (by decide) ?_
              subst hZ
              exact tz_ret (W.vret hx hb hr (fun t ht hW => ⟨⟨fun v9 hv9 => by cases hv9; exact (Or.inl ⟨t_tr90, zi, t_lt91, f_mf92, rfl, c93, by omega, by rw [ht]; exact hI.1⟩), fun x9 hx9 => (by cases hx9)⟩, hI.2.F ht⟩) hI.2.2.2 d_Mo_manyList_151)
            · cases hv
              have hI : sI (dC, dI) vcl cI cJ (gsM a th tr dp zi co sh t_lt94 ts f_mf95) A s.heap H1 locs1 := ⟨by rw [← ht]; exact hI1, hS⟩
              obtain ⟨-, -, -, -, -, -, ⟨o101, o102⟩, -, -⟩ := id c96
              clear hpost hI1 hS ht hWt
              revert hI; generalize H1 = H; generalize locs1 = locs; intro hI
              refine lv_goto (tgt := 151) hx hb d_Mo_manyList_74 (by decide) ?_
              subst hZ
              exact tz_ret (W.vret hx hb hr (fun t ht hW => ⟨⟨fun v9 hv9 => by cases hv9; exact (Or.inr (Or.inr (⟨dp, zi, sh, t_lt94, f_mf95, rfl, c96, by omega, by omega, by rw [ht]; exact hI.1⟩))), fun x9 hx9 => (by cases hx9)⟩, hI.2.F ht⟩) hI.2.2.2 d_Mo_manyList_151)
        · refine lv_aload_n hx hb d_Mo_manyList_52 rfl (lv_at hl 0 rfl) ?_
          refine lv_iload_n hx hb d_Mo_manyList_53 rfl (lv_at hl 2 rfl) ?_
          refine lv_iload_n hx hb d_Mo_manyList_54 rfl (lv_at hl 3 rfl) ?_
          refine lv_iload hx hb d_Mo_manyList_55 (lv_at hl 4 rfl) ?_
          refine tz_call (A1 := ga (adM a) H.size) (tz_runV (C := "StoryMachineModel") (As := [.int x2, .int x3, .int x4]) (rest := []) ⟨hx, hb, hml, hown, hts⟩ (c_Mo_setProperty l hfl dC dI cI cJ a H.size th tr dp zi co sh lt ts mf x2 x3 x4 hok) (tx_cb (n := 3) hts rfl rfl ⟨Nat.le_of_ble_eq_true rfl, Nat.le_of_ble_eq_true rfl⟩ (tx_code.of (hts _ mw_1448)) (hts _ mw_12) (by decide +kernel) (hts _ mw_1445)) (hts _ mw_1447) (hts _ ms_Mo_setProperty) ⟨tz_blind, sv_recv (q0 := 0) hts in_Mo hK hI kM_0 rfl, fun U hU hW => ⟨rfl, by rw [hU], by rw [hU]; exact hI.1, va_K.moved hW.alike hK, hst _ _ hI.2 U hU hW⟩⟩ rfl rfl hl.1 rfl (lv_room (Nat.le_of_ble_eq_true rfl)) d_Mo_manyList_57 ⟨Nat.le_of_ble_eq_true rfl, Nat.le_of_ble_eq_true rfl⟩) hI.2 (fun q _ h => ga_sub hAC hA0 hI.2 q h) (ga_sub hAC hA0 hI.2) (fun v t H1 locs1 ht hWt hpost _ _ hS => ?_) (fun x t H1 locs1 ht hWt hpost _ _ hS => (hpost.2 x rfl).elim)
          rcases hpost.1 _ rfl with ⟨t_tr103, hv, c104, c104_0, hI1⟩ | ⟨f_mf105, hv, c106, c106_0, c106_1, c106_2, hI1⟩
          · cases hv
            have hI : sI (dC, dI) vcl cI cJ (gsM a th t_tr103 dp zi co sh lt ts mf) A s.heap H1 locs1 := ⟨by rw [← ht]; exact hI1, hS⟩
            obtain ⟨-, ⟨o107, o108⟩, -, -, -, -, -, -, -⟩ := id c104
            clear hpost hI1 hS ht hWt
            revert hI; generalize H1 = H; generalize locs1 = locs; intro hI
            refine lv_goto (tgt := 151) hx hb d_Mo_manyList_60 (by decide) ?_
            subst hZ
            exact tz_ret (W.vret hx hb hr (fun t ht hW => ⟨⟨fun v9 hv9 => by cases hv9; exact (Or.inl ⟨t_tr103, zi, lt, mf, rfl, c104, by omega, by rw [ht]; exact hI.1⟩), fun x9 hx9 => (by cases hx9)⟩, hI.2.F ht⟩) hI.2.2.2 d_Mo_manyList_151)
          · cases hv
            have hI : sI (dC, dI) vcl cI cJ (gsM a th tr dp zi co sh lt ts f_mf105) A s.heap H1 locs1 := ⟨by rw [← ht]; exact hI1, hS⟩
            obtain ⟨-, -, -, -, -, -, -, -, -⟩ := id c106
            clear hpost hI1 hS ht hWt
            revert hI; generalize H1 = H; generalize locs1 = locs; intro hI
            refine lv_goto (tgt := 151) hx hb d_Mo_manyList_60 (by decide) ?_
            subst hZ
            exact tz_ret (W.vret hx hb hr (fun t ht hW => ⟨⟨fun v9 hv9 => by cases hv9; exact (Or.inr (Or.inr (⟨dp, zi, sh, lt, f_mf105, rfl, c106, by omega, by omega, by rw [ht]; exact hI.1⟩))), fun x9 hx9 => (by cases hx9)⟩, hI.2.F ht⟩) hI.2.2.2 d_Mo_manyList_151)
      · refine lv_aload_n hx hb d_Mo_manyList_35 rfl (lv_at hl 0 rfl) ?_
        refine lv_iload_n hx hb d_Mo_manyList_36 rfl (lv_at hl 2 rfl) ?_
        refine lv_iload_n hx hb d_Mo_manyList_37 rfl (lv_at hl 3 rfl) ?_
        refine sn_iadd hx hb d_Mo_manyList_38 (by omega) (by omega) (fun z109 hz109 => ?_)
        refine lv_iload hx hb d_Mo_manyList_39 (lv_at hl 4 rfl) ?_
        refine tz_call (A1 := ga (adM a) H.size) (tz_runV (C := "StoryMachineModel") (As := [.int z109, .int x4]) (rest := []) ⟨hx, hb, hml, hown, hts⟩ (c_Mo_setByte l hfl dC dI cI cJ a H.size th tr dp zi co sh lt ts mf z109 x4 hok) (tx_cb (n := 2) hts rfl rfl ⟨Nat.le_of_ble_eq_true rfl, Nat.le_of_ble_eq_true rfl⟩ (tx_code.of (hts _ mw_1353)) (hts _ mw_12) (by decide +kernel) (hts _ mw_1350)) (hts _ mw_1352) (hts _ ms_Mo_setByte) ⟨tz_blind, sv_recv (q0 := 0) hts in_Mo hK hI kM_0 rfl, fun U hU hW => ⟨rfl, by rw [hU], by rw [hU]; exact hI.1, va_K.moved hW.alike hK, hst _ _ hI.2 U hU hW⟩⟩ rfl rfl hl.1 rfl (lv_room (Nat.le_of_ble_eq_true rfl)) d_Mo_manyList_41 ⟨Nat.le_of_ble_eq_true rfl, Nat.le_of_ble_eq_true rfl⟩) hI.2 (fun q _ h => ga_sub hAC hA0 hI.2 q h) (ga_sub hAC hA0 hI.2) (fun v t H1 locs1 ht hWt hpost _ _ hS => ?_) (fun x t H1 locs1 ht hWt hpost _ _ hS => (hpost.2 x rfl).elim)
        rcases hpost.1 _ rfl with ⟨t_tr110, hv, c111, c111_0, hI1⟩ | ⟨f_mf112, hv, c113, c113_0, c113_1, c113_2, hI1⟩
        · cases hv
          have hI : sI (dC, dI) vcl cI cJ (gsM a th t_tr110 dp zi co sh lt ts mf) A s.heap H1 locs1 := ⟨by rw [← ht]; exact hI1, hS⟩
          obtain ⟨-, ⟨o114, o115⟩, -, -, -, -, -, -, -⟩ := id c111
          clear hpost hI1 hS ht hWt
          revert hI; generalize H1 = H; generalize locs1 = locs; intro hI
          refine lv_goto (tgt := 151) hx hb d_Mo_manyList_44 (by decide) ?_
          subst hZ
          exact tz_ret (W.vret hx hb hr (fun t ht hW => ⟨⟨fun v9 hv9 => by cases hv9; exact (Or.inl ⟨t_tr110, zi, lt, mf, rfl, c111, by omega, by rw [ht]; exact hI.1⟩), fun x9 hx9 => (by cases hx9)⟩, hI.2.F ht⟩) hI.2.2.2 d_Mo_manyList_151)
        · cases hv
          have hI : sI (dC, dI) vcl cI cJ (gsM a th tr dp zi co sh lt ts f_mf112) A s.heap H1 locs1 := ⟨by rw [← ht]; exact hI1, hS⟩
          obtain ⟨-, -, -, -, -, -, -, -, -⟩ := id c113
          clear hpost hI1 hS ht hWt
          revert hI; generalize H1 = H; generalize locs1 = locs; intro hI
          refine lv_goto (tgt := 151) hx hb d_Mo_manyList_44 (by decide) ?_
          subst hZ
          exact tz_ret (W.vret hx hb hr (fun t ht hW => ⟨⟨fun v9 hv9 => by cases hv9; exact (Or.inr (Or.inr (⟨dp, zi, sh, lt, f_mf112, rfl, c113, by omega, by omega, by rw [ht]; exact hI.1⟩))), fun x9 hx9 => (by cases hx9)⟩, hI.2.F ht⟩) hI.2.2.2 d_Mo_manyList_151)
    · refine lv_aload_n hx hb d_Mo_manyList_16 rfl (lv_at hl 0 rfl) ?_
      refine lv_iload_n hx hb d_Mo_manyList_17 rfl (lv_at hl 2 rfl) ?_
      refine sn_iconst hx hb d_Mo_manyList_18 (by decide) (fun z116 hz116 => ?_)
      refine lv_iload_n hx hb d_Mo_manyList_19 rfl (lv_at hl 3 rfl) ?_
      refine sn_imulL (k := 2) hx hb d_Mo_manyList_20 (by omega) (by omega) (by omega) (fun z117 hz117 => ?_)
      refine sn_iadd hx hb d_Mo_manyList_21 (by omega) (by omega) (fun z118 hz118 => ?_)
      refine lv_iload hx hb d_Mo_manyList_22 (lv_at hl 4 rfl) ?_
      refine tz_call (A1 := ga (adM a) H.size) (tz_runV (C := "StoryMachineModel") (As := [.int z118, .int x4]) (rest := []) ⟨hx, hb, hml, hown, hts⟩ (c_Mo_setWord l hfl dC dI cI cJ a H.size th tr dp zi co sh lt ts mf z118 x4 hok) (tx_cb (n := 2) hts rfl rfl ⟨Nat.le_of_ble_eq_true rfl, Nat.le_of_ble_eq_true rfl⟩ (tx_code.of (hts _ mw_1309)) (hts _ mw_12) (by decide +kernel) (hts _ mw_1306)) (hts _ mw_1308) (hts _ ms_Mo_setWord) ⟨tz_blind, sv_recv (q0 := 0) hts in_Mo hK hI kM_0 rfl, fun U hU hW => ⟨rfl, by rw [hU], by rw [hU]; exact hI.1, va_K.moved hW.alike hK, hst _ _ hI.2 U hU hW⟩⟩ rfl rfl hl.1 rfl (lv_room (Nat.le_of_ble_eq_true rfl)) d_Mo_manyList_24 ⟨Nat.le_of_ble_eq_true rfl, Nat.le_of_ble_eq_true rfl⟩) hI.2 (fun q _ h => ga_sub hAC hA0 hI.2 q h) (ga_sub hAC hA0 hI.2) (fun v t H1 locs1 ht hWt hpost _ _ hS => ?_) (fun x t H1 locs1 ht hWt hpost _ _ hS => (hpost.2 x rfl).elim)
      rcases hpost.1 _ rfl with ⟨t_tr119, hv, c120, c120_0, hI1⟩ | ⟨f_mf121, hv, c122, c122_0, c122_1, c122_2, hI1⟩
      · cases hv
        have hI : sI (dC, dI) vcl cI cJ (gsM a th t_tr119 dp zi co sh lt ts mf) A s.heap H1 locs1 := ⟨by rw [← ht]; exact hI1, hS⟩
        obtain ⟨-, ⟨o123, o124⟩, -, -, -, -, -, -, -⟩ := id c120
        clear hpost hI1 hS ht hWt
        revert hI; generalize H1 = H; generalize locs1 = locs; intro hI
        refine lv_goto (tgt := 151) hx hb d_Mo_manyList_27 (by decide) ?_
        subst hZ
        exact tz_ret (W.vret hx hb hr (fun t ht hW => ⟨⟨fun v9 hv9 => by cases hv9; exact (Or.inl ⟨t_tr119, zi, lt, mf, rfl, c120, by omega, by rw [ht]; exact hI.1⟩), fun x9 hx9 => (by cases hx9)⟩, hI.2.F ht⟩) hI.2.2.2 d_Mo_manyList_151)
      · cases hv
        have hI : sI (dC, dI) vcl cI cJ (gsM a th tr dp zi co sh lt ts f_mf121) A s.heap H1 locs1 := ⟨by rw [← ht]; exact hI1, hS⟩
        obtain ⟨-, -, -, -, -, -, -, -, -⟩ := id c122
        clear hpost hI1 hS ht hWt
        revert hI; generalize H1 = H; generalize locs1 = locs; intro hI
        refine lv_goto (tgt := 151) hx hb d_Mo_manyList_27 (by decide) ?_
        subst hZ
        exact tz_ret (W.vret hx hb hr (fun t ht hW => ⟨⟨fun v9 hv9 => by cases hv9; exact (Or.inr (Or.inr (⟨dp, zi, sh, lt, f_mf121, rfl, c122, by omega, by omega, by rw [ht]; exact hI.1⟩))), fun x9 hx9 => (by cases hx9)⟩, hI.2.F ht⟩) hI.2.2.2 d_Mo_manyList_151)
  · refine lv_aload_n hx hb d_Mo_manyList_4 rfl (lv_at hl 0 rfl) ?_
    refine tz_call (A1 := ga (adM a) H.size) (tz_runV (C := "StoryMachineModel") (As := []) (rest := []) ⟨hx, hb, hml, hown, hts⟩ (c_Mo_call l hfl dC dI cI cJ a H.size th tr dp zi co sh lt ts mf  hok) (tx_cb (n := 0) hts rfl rfl ⟨Nat.le_of_ble_eq_true rfl, Nat.le_of_ble_eq_true rfl⟩ (tx_code.of (hts _ mw_1444)) (hts _ mw_12) (by decide +kernel) (hts _ mw_1441)) (hts _ mw_1443) (hts _ ms_Mo_call) ⟨tz_blind, sv_recv (q0 := 0) hts in_Mo hK hI kM_0 rfl, fun U hU hW => ⟨rfl, by rw [hU], by rw [hU]; exact hI.1, va_K.moved hW.alike hK, hst _ _ hI.2 U hU hW⟩⟩ rfl rfl hl.1 rfl (lv_room (Nat.le_of_ble_eq_true rfl)) d_Mo_manyList_5 ⟨Nat.le_of_ble_eq_true rfl, Nat.le_of_ble_eq_true rfl⟩) hI.2 (fun q _ h => ga_sub hAC hA0 hI.2 q h) (ga_sub hAC hA0 hI.2) (fun v t H1 locs1 ht hWt hpost _ _ hS => ?_) (fun x t H1 locs1 ht hWt hpost _ _ hS => (hpost.2 x rfl).elim)
    rcases hpost.1 _ rfl with ⟨t_tr125, hv, c126, c126_0, hI1⟩ | ⟨t_dp127, t_zi128, f_mf129, hv, c130, c130_0, hI1⟩
    · cases hv
      have hI : sI (dC, dI) vcl cI cJ (gsM a th t_tr125 dp zi co sh lt ts mf) A s.heap H1 locs1 := ⟨by rw [← ht]; exact hI1, hS⟩
      obtain ⟨-, ⟨o131, o132⟩, -, -, -, -, -, -, -⟩ := id c126
      clear hpost hI1 hS ht hWt
      revert hI; generalize H1 = H; generalize locs1 = locs; intro hI
      refine lv_goto (tgt := 151) hx hb d_Mo_manyList_8 (by decide) ?_
      subst hZ
      exact tz_ret (W.vret hx hb hr (fun t ht hW => ⟨⟨fun v9 hv9 => by cases hv9; exact (Or.inl ⟨t_tr125, zi, lt, mf, rfl, c126, by omega, by rw [ht]; exact hI.1⟩), fun x9 hx9 => (by cases hx9)⟩, hI.2.F ht⟩) hI.2.2.2 d_Mo_manyList_151)
    · cases hv
      have hI : sI (dC, dI) vcl cI cJ (gsM a th tr t_dp127 t_zi128 co sh lt ts f_mf129) A s.heap H1 locs1 := ⟨by rw [← ht]; exact hI1, hS⟩
      obtain ⟨-, -, ⟨o133, o134⟩, ⟨o135, o136⟩, -, -, -, -, -⟩ := id c130
      clear hpost hI1 hS ht hWt
      revert hI; generalize H1 = H; generalize locs1 = locs; intro hI
      refine lv_goto (tgt := 151) hx hb d_Mo_manyList_8 (by decide) ?_
      subst hZ
      exact tz_ret (W.vret hx hb hr (fun t ht hW => ⟨⟨fun v9 hv9 => by cases hv9; exact (Or.inr (Or.inr (⟨t_dp127, t_zi128, sh, lt, f_mf129, rfl, c130, by omega, by omega, by rw [ht]; exact hI.1⟩))), fun x9 hx9 => (by cases hx9)⟩, hI.2.F ht⟩) hI.2.2.2 d_Mo_manyList_151)
abbrev q_Mo_leave (dC : Nat → ClassId) (dI : Nat → Nat → Nat) (cI cJ : ClassId) (a : Nat → Nat) (th tr dp zi co sh lt ts : Int) (mf : Nat → Int32) (x1 : Int32) : Outcome → State → Prop := fun o t => (∀ v, o = .returned v → ((∃ (tr_ dp_ zi_ : Int), v = none ∧ okM th tr_ dp_ zi_ co sh lt ts mf ∧ (1 ≤ tr_) ∧ sh_I (dC, dI) vcl cI cJ (gsM a th tr_ dp_ zi_ co sh lt ts mf) t.heap) ∨ (∃ (dp_ zi_ : Int) (mf_ : Nat → Int32), v = none ∧ okM th tr dp_ zi_ co sh lt ts mf_ ∧ (tr ≤ 0) ∧ (1 ≤ dp) ∧ (dp_ ≤ 9) ∧ sh_I (dC, dI) vcl cI cJ (gsM a th tr dp_ zi_ co sh lt ts mf_) t.heap))) ∧ (∀ x, o = .threw x → (False))
def rm_Mo_leave : Room := { frames := 5, cells := 0, slots := 0, locals := 110 }
set_option maxHeartbeats 4000000 in
set_option maxRecDepth 100000 in
theorem c_Mo_leave (l : Launch) (hfl : l.flags = pinnedFlags ++ [noTraceFlag]) (dC : Nat → ClassId) (dI : Nat → Nat → Nat) (cI cJ : ClassId) (a : Nat → Nat) (sz : Nat) (th tr dp zi co sh lt ts : Int) (mf : Nat → Int32) (x1 : Int32) (hok : okM th tr dp zi co sh lt ts mf) : tz_Met l ⟨"StoryMachineModel", "leave", "(I)V"⟩ tw_tbl rm_Mo_leave (tzP (dC, dI) vcl cI cJ (gsM a th tr dp zi co sh lt ts mf) a (adM a) [.ref (a 0), .int x1] sz) (tq_Q (q_Mo_leave dC dI cI cJ a th tr dp zi co sh lt ts mf x1) (ga (adM a) sz)) 0 0 0 0 (ga (adM a) sz) := by
  refine tz_ofW (cc := prog_13_method_44_code) (maxL := 3) (ret := none) (by decide) (tx_isM mw_1292) ?_
  intro p e s m args below meth c s₁ B hml hv
  obtain ⟨rfl, hsz, hI0, hK, hst0⟩ := hv
  have hx := B.exec
  have hb := B.bytes
  have hr := B.returns
  have hts := atoms_spec (ws := tw_tbl) B.pre
  have hown : s.vm.findClass "StoryMachineModel" = some m.cls := findClass_of_methodNamed B.named
  have hlocks := B.notSynchronized
  subst hsz
  have hst := fun (H : Heap) (locs : List Loc) (hS : va_S (ga (adM a) s.heap.size) s.heap H locs) (U : State) (hU : U.heap = H) (hW : s.WarmedH U.vm) => zS_all adM_map hI0 hst0 hS hU hW
  have hAC : ∀ q ∈ adM a, ga (adM a) s.heap.size q := fun q h => Or.inl h
  have hA0 : ∀ q, s.heap.size ≤ q → ga (adM a) s.heap.size q := fun q h => Or.inr h
  have hI : sI (dC, dI) vcl cI cJ (gsM a th tr dp zi co sh lt ts mf) (ga (adM a) s.heap.size) s.heap s.heap [] := ⟨hI0, va_S.rf⟩
  clear hI0 hst0
  have hl := lv_entry ([.ref (a 0), .int x1]) (n := 3) (Nat.le_of_ble_eq_true rfl)
  rw [lg_entry_eq]
  generalize (lg_sl ([.ref (a 0), .int x1]) ++ List.replicate (3 - (lg_sl ([.ref (a 0), .int x1])).length) Slot.unset).toArray = ls at hl ⊢
  have hl : lv_has ls 3 [(0, .ref (a 0)), (1, .int x1)] := hl
  generalize hZ : tz_MQ below (tq_Q (q_Mo_leave dC dI cI cJ a th tr dp zi co sh lt ts mf x1) (ga (adM a) s.heap.size)) ([.ref (a 0), .int x1] : List Value).toArray s 0 0 0 0 (ga (adM a) s.heap.size) = Z
  obtain ⟨A, hAe⟩ : ∃ A, A = ga (adM a) s.heap.size := ⟨_, rfl⟩
  rw [← hAe] at hst hAC hA0 hI hZ
  refine sv_start hI (fun H locs hI => ?_)
  obtain ⟨⟨o1, o2⟩, ⟨o3, o4⟩, ⟨o5, o6⟩, ⟨o7, o8⟩, ⟨o9, o10⟩, ⟨o11, o12⟩, ⟨o13, o14⟩, ⟨o15, o16⟩, -⟩ := id hok
  have gx1 := sn_rng x1
  refine lv_aload_n hx hb d_Mo_leave_0 rfl (lv_at hl 0 rfl) ?_
  refine lv_aload_n hx hb d_Mo_leave_1 rfl (lv_at hl 0 rfl) ?_
  refine sv_gete (C := "StoryMachineModel") (T := T_Mo) (N := 51) hx hb hts in_Mo hown hK hI 0 kM_0 rfl 4 (by decide) (hts _ mw_1067) rfl d_Mo_leave_2 (fun z17 hz17 => ?_)
  refine sn_if_le (tgt := 12) hx hb d_Mo_leave_5 (by decide) (fun b18 => ?_) (fun b18 => ?_)
  · refine sn_iconst hx hb d_Mo_leave_12 (by decide) (fun z19 hz19 => ?_)
    refine sn_iconst hx hb d_Mo_leave_13 (by decide) (fun z20 hz20 => ?_)
    refine tz_call (A1 := ga (adM a) H.size) (tz_runV (C := "StoryMachineModel") (As := [.int z19, .int z20]) (rest := []) ⟨hx, hb, hml, hown, hts⟩ (c_Mo_good l hfl dC dI cI cJ a H.size th tr dp zi co sh lt ts mf z19 z20 hok (by omega) (by omega) (by omega) (by omega)) (tx_cb (n := 2) hts rfl rfl ⟨Nat.le_of_ble_eq_true rfl, Nat.le_of_ble_eq_true rfl⟩ (tx_code.of (hts _ mw_1240)) (hts _ mw_12) (by decide +kernel) (hts _ mw_1237)) (hts _ mw_1239) (hts _ ms_Mo_good) ⟨tz_blind, sv_recv (q0 := 0) hts in_Mo hK hI kM_0 rfl, fun U hU hW => ⟨rfl, by rw [hU], by rw [hU]; exact hI.1, va_K.moved hW.alike hK, hst _ _ hI.2 U hU hW⟩⟩ rfl rfl hl.1 rfl (lv_room (Nat.le_of_ble_eq_true rfl)) d_Mo_leave_14 ⟨Nat.le_of_ble_eq_true rfl, Nat.le_of_ble_eq_true rfl⟩) hI.2 (fun q _ h => ga_sub hAC hA0 hI.2 q h) (ga_sub hAC hA0 hI.2) (fun v t H1 locs1 ht hWt hpost _ _ hS => ?_) (fun x t H1 locs1 ht hWt hpost _ _ hS => (hpost.2 x rfl).elim)
    rcases hpost.1 _ rfl with ⟨z21, t_tr22, hv, c23, c23_0, c23_1, c23_2, c23_3, hI1⟩ | ⟨z24, hv, c25, c25_0, c25_1, c25_2, c25_3, hI1⟩
    · cases hv
      have hI : sI (dC, dI) vcl cI cJ (gsM a th t_tr22 dp zi co sh lt ts mf) A s.heap H1 locs1 := ⟨by rw [← ht]; exact hI1, hS⟩
      obtain ⟨-, ⟨o26, o27⟩, -, -, -, -, -, -, -⟩ := id c23
      clear hpost hI1 hS ht hWt
      revert hI; generalize H1 = H; generalize locs1 = locs; intro hI
      refine sn_if_ne (tgt := 21) hx hb d_Mo_leave_17 (by decide) (fun b28 => ?_) (fun b28 => ?_)
      · omega
      · subst hZ
        exact tz_ret (W.vret hx hb hr (fun t ht hW => ⟨⟨fun v9 hv9 => by cases hv9; exact (Or.inl ⟨t_tr22, dp, zi, rfl, c23, by omega, by rw [ht]; exact hI.1⟩), fun x9 hx9 => (by cases hx9)⟩, hI.2.F ht⟩) hI.2.2.2 d_Mo_leave_20)
    · omega
  · refine sn_iconst hx hb d_Mo_leave_8 (by decide) (fun z29 hz29 => ?_)
    refine lv_goto (tgt := 13) hx hb d_Mo_leave_9 (by decide) ?_
    refine sn_iconst hx hb d_Mo_leave_13 (by decide) (fun z30 hz30 => ?_)
    refine tz_call (A1 := ga (adM a) H.size) (tz_runV (C := "StoryMachineModel") (As := [.int z29, .int z30]) (rest := []) ⟨hx, hb, hml, hown, hts⟩ (c_Mo_good l hfl dC dI cI cJ a H.size th tr dp zi co sh lt ts mf z29 z30 hok (by omega) (by omega) (by omega) (by omega)) (tx_cb (n := 2) hts rfl rfl ⟨Nat.le_of_ble_eq_true rfl, Nat.le_of_ble_eq_true rfl⟩ (tx_code.of (hts _ mw_1240)) (hts _ mw_12) (by decide +kernel) (hts _ mw_1237)) (hts _ mw_1239) (hts _ ms_Mo_good) ⟨tz_blind, sv_recv (q0 := 0) hts in_Mo hK hI kM_0 rfl, fun U hU hW => ⟨rfl, by rw [hU], by rw [hU]; exact hI.1, va_K.moved hW.alike hK, hst _ _ hI.2 U hU hW⟩⟩ rfl rfl hl.1 rfl (lv_room (Nat.le_of_ble_eq_true rfl)) d_Mo_leave_14 ⟨Nat.le_of_ble_eq_true rfl, Nat.le_of_ble_eq_true rfl⟩) hI.2 (fun q _ h => ga_sub hAC hA0 hI.2 q h) (ga_sub hAC hA0 hI.2) (fun v t H1 locs1 ht hWt hpost _ _ hS => ?_) (fun x t H1 locs1 ht hWt hpost _ _ hS => (hpost.2 x rfl).elim)
    rcases hpost.1 _ rfl with ⟨z31, t_tr32, hv, c33, c33_0, c33_1, c33_2, c33_3, hI1⟩ | ⟨z34, hv, c35, c35_0, c35_1, c35_2, c35_3, hI1⟩
    · cases hv
      have hI : sI (dC, dI) vcl cI cJ (gsM a th t_tr32 dp zi co sh lt ts mf) A s.heap H1 locs1 := ⟨by rw [← ht]; exact hI1, hS⟩
      obtain ⟨-, ⟨o36, o37⟩, -, -, -, -, -, -, -⟩ := id c33
      clear hpost hI1 hS ht hWt
      revert hI; generalize H1 = H; generalize locs1 = locs; intro hI
      refine sn_if_ne (tgt := 21) hx hb d_Mo_leave_17 (by decide) (fun b38 => ?_) (fun b38 => ?_)
      · omega
      · subst hZ
        exact tz_ret (W.vret hx hb hr (fun t ht hW => ⟨⟨fun v9 hv9 => by cases hv9; exact (Or.inl ⟨t_tr32, dp, zi, rfl, c33, by omega, by rw [ht]; exact hI.1⟩), fun x9 hx9 => (by cases hx9)⟩, hI.2.F ht⟩) hI.2.2.2 d_Mo_leave_20)
    · cases hv
      have hI : sI (dC, dI) vcl cI cJ (gsM a th tr dp zi co sh lt ts mf) A s.heap H1 locs1 := ⟨by rw [← ht]; exact hI1, hS⟩
      clear hpost hI1 hS ht hWt
      revert hI; generalize H1 = H; generalize locs1 = locs; intro hI
      refine sn_if_ne (tgt := 21) hx hb d_Mo_leave_17 (by decide) (fun b39 => ?_) (fun b39 => ?_)
      · refine lv_aload_n hx hb d_Mo_leave_21 rfl (lv_at hl 0 rfl) ?_
        refine lv_aload_n hx hb d_Mo_leave_22 rfl (lv_at hl 0 rfl) ?_
        refine sv_getr (C := "StoryMachineModel") (T := T_Mo) (N := 51) hx hb hts in_Mo hown hK hI 0 kM_0 rfl 6 (by decide) (hts _ mw_1069) rfl d_Mo_leave_23 ?_
        refine lv_aload_n hx hb d_Mo_leave_26 rfl (lv_at hl 0 rfl) ?_
        refine sv_gete (C := "StoryMachineModel") (T := T_Mo) (N := 51) hx hb hts in_Mo hown hK hI 0 kM_0 rfl 4 (by decide) (hts _ mw_1067) rfl d_Mo_leave_27 (fun z40 hz40 => ?_)
        refine sv_ialdr hx hb hK hI 4 kM_4 (by omega) (by omega) d_Mo_leave_30 (fun z41 hz41a hz41b => ?_)
        refine sv_put (C := "StoryMachineModel") (T := T_Mo) (N := 51) (ty := .int) hx hb hts in_Mo t_Mo tk_Mo nm_Mo hown hK (sh_in adM_map hAC) hI 0 kM_0 rfl 2 (by decide) (hts _ mw_1065) rfl (by decide +kernel) rfl rfl (Nat.le_of_ble_eq_true rfl) (Int.le_refl _) (Int.le_refl _) pM_0_2 d_Mo_leave_31 (fun H locs hI => ?_)
        refine lv_aload_n hx hb d_Mo_leave_34 rfl (lv_at hl 0 rfl) ?_
        refine lv_aload_n hx hb d_Mo_leave_35 rfl (lv_at hl 0 rfl) ?_
        refine sv_getr (C := "StoryMachineModel") (T := T_Mo) (N := 51) hx hb hts in_Mo hown hK hI 0 kM_0 rfl 7 (by decide) (hts _ mw_1070) rfl d_Mo_leave_36 ?_
        refine lv_aload_n hx hb d_Mo_leave_39 rfl (lv_at hl 0 rfl) ?_
        refine sv_gete (C := "StoryMachineModel") (T := T_Mo) (N := 51) hx hb hts in_Mo hown hK hI 0 kM_0 rfl 4 (by decide) (hts _ mw_1067) rfl d_Mo_leave_40 (fun z42 hz42 => ?_)
        refine sv_ialdr hx hb hK hI 5 kM_5 (by omega) (by omega) d_Mo_leave_43 (fun z43 hz43a hz43b => ?_)
        refine sv_put (C := "StoryMachineModel") (T := T_Mo) (N := 51) (ty := .int) hx hb hts in_Mo t_Mo tk_Mo nm_Mo hown hK (sh_in adM_map hAC) hI 0 kM_0 rfl 28 (by decide) (hts _ mw_1091) rfl (by decide +kernel) rfl rfl (Nat.le_of_ble_eq_true rfl) (by omega) (by omega) pM_0_28 d_Mo_leave_44 (fun H locs hI => ?_)
        refine lv_aload_n hx hb d_Mo_leave_47 rfl (lv_at hl 0 rfl) ?_
        refine sv_getr (C := "StoryMachineModel") (T := T_Mo) (N := 51) hx hb hts in_Mo hown hK hI 0 kM_0 rfl 8 (by decide) (hts _ mw_1071) rfl d_Mo_leave_48 ?_
        refine lv_aload_n hx hb d_Mo_leave_51 rfl (lv_at hl 0 rfl) ?_
        refine sv_gete (C := "StoryMachineModel") (T := T_Mo) (N := 51) hx hb hts in_Mo hown hK hI 0 kM_0 rfl 4 (by decide) (hts _ mw_1067) rfl d_Mo_leave_52 (fun z44 hz44 => ?_)
        refine sv_ialdr hx hb hK hI 6 kM_6 (by omega) (by omega) d_Mo_leave_55 (fun z45 hz45a hz45b => ?_)
        refine lv_istore_n (lv' := [(2, .int z45), (0, .ref (a 0)), (1, .int x1)]) hx hb d_Mo_leave_56 rfl hl (by decide) rfl (fun ls hl => ?_)
        refine lv_aload_n hx hb d_Mo_leave_57 rfl (lv_at hl 1 rfl) ?_
        refine lv_dup hx hb d_Mo_leave_58 rfl ?_
        refine sv_gete (C := "StoryMachineModel") (T := T_Mo) (N := 51) hx hb hts in_Mo hown hK hI 0 kM_0 rfl 4 (by decide) (hts _ mw_1067) rfl d_Mo_leave_59 (fun z46 hz46 => ?_)
        refine sn_iconst hx hb d_Mo_leave_62 (by decide) (fun z47 hz47 => ?_)
        refine sn_isub hx hb d_Mo_leave_63 (by omega) (by omega) (fun z48 hz48 => ?_)
        refine sv_put (C := "StoryMachineModel") (T := T_Mo) (N := 51) (ty := .int) hx hb hts in_Mo t_Mo tk_Mo nm_Mo hown hK (sh_in adM_map hAC) hI 0 kM_0 rfl 4 (by decide) (hts _ mw_1067) rfl (by decide +kernel) rfl rfl (Nat.le_of_ble_eq_true rfl) (Int.le_refl _) (Int.le_refl _) pM_0_4 d_Mo_leave_64 (fun H locs hI => ?_)
        refine lv_aload_n hx hb d_Mo_leave_67 rfl (lv_at hl 1 rfl) ?_
        refine lv_iload_n hx hb d_Mo_leave_68 rfl (lv_at hl 0 rfl) ?_
        refine lv_iload_n hx hb d_Mo_leave_69 rfl (lv_at hl 2 rfl) ?_
        have ho49 : okM th tr z48.toInt z41.toInt co sh lt ts mf := ⟨c35.1, c35.2.1, ⟨by omega, by omega⟩, ⟨by omega, by omega⟩, c35.2.2.2.2.1, c35.2.2.2.2.2.1, c35.2.2.2.2.2.2.1, c35.2.2.2.2.2.2.2.1, c35.2.2.2.2.2.2.2.2⟩
        refine tz_call (A1 := ga (adM a) H.size) (tz_runV (C := "StoryMachineModel") (As := [.int z45, .int x1]) (rest := []) ⟨hx, hb, hml, hown, hts⟩ (c_Mo_write l hfl dC dI cI cJ a H.size th tr z48.toInt z41.toInt co sh lt ts mf z45 x1 ho49) (tx_cb (n := 2) hts rfl rfl ⟨Nat.le_of_ble_eq_true rfl, Nat.le_of_ble_eq_true rfl⟩ (tx_code.of (hts _ mw_1296)) (hts _ mw_12) (by decide +kernel) (hts _ mw_1293)) (hts _ mw_1295) (hts _ ms_Mo_write) ⟨tz_blind, sv_recv (q0 := 0) hts in_Mo hK hI kM_0 rfl, fun U hU hW => ⟨rfl, by rw [hU], by rw [hU]; exact hI.1, va_K.moved hW.alike hK, hst _ _ hI.2 U hU hW⟩⟩ rfl rfl hl.1 rfl (lv_room (Nat.le_of_ble_eq_true rfl)) d_Mo_leave_70 ⟨Nat.le_of_ble_eq_true rfl, Nat.le_of_ble_eq_true rfl⟩) hI.2 (fun q _ h => ga_sub hAC hA0 hI.2 q h) (ga_sub hAC hA0 hI.2) (fun v t H1 locs1 ht hWt hpost _ _ hS => ?_) (fun x t H1 locs1 ht hWt hpost _ _ hS => (hpost.2 x rfl).elim)
        rcases hpost.1 _ rfl with ⟨t_tr50, hv, c51, c51_0, hI1⟩ | ⟨t_zi52, f_mf53, hv, c54, c54_0, c54_1, hI1⟩
        · cases hv
          have hI : sI (dC, dI) vcl cI cJ (gsM a th t_tr50 z48.toInt z41.toInt co sh lt ts mf) A s.heap H1 locs1 := ⟨by rw [← ht]; exact hI1, hS⟩
          obtain ⟨-, ⟨o55, o56⟩, -, -, -, -, -, -, -⟩ := id c51
          clear hpost hI1 hS ht hWt
          revert hI; generalize H1 = H; generalize locs1 = locs; intro hI
          subst hZ
          exact tz_ret (W.vret hx hb hr (fun t ht hW => ⟨⟨fun v9 hv9 => by cases hv9; exact (Or.inl ⟨t_tr50, z48.toInt, z41.toInt, rfl, c51, by omega, by rw [ht]; exact hI.1⟩), fun x9 hx9 => (by cases hx9)⟩, hI.2.F ht⟩) hI.2.2.2 d_Mo_leave_73)
        · cases hv
          have hI : sI (dC, dI) vcl cI cJ (gsM a th tr z48.toInt t_zi52 co sh lt ts f_mf53) A s.heap H1 locs1 := ⟨by rw [← ht]; exact hI1, hS⟩
          obtain ⟨-, -, -, ⟨o57, o58⟩, -, -, -, -, -⟩ := id c54
          clear hpost hI1 hS ht hWt
          revert hI; generalize H1 = H; generalize locs1 = locs; intro hI
          subst hZ
          exact tz_ret (W.vret hx hb hr (fun t ht hW => ⟨⟨fun v9 hv9 => by cases hv9; exact (Or.inr (⟨z48.toInt, t_zi52, f_mf53, rfl, c54, by omega, by omega, by omega, by rw [ht]; exact hI.1⟩)), fun x9 hx9 => (by cases hx9)⟩, hI.2.F ht⟩) hI.2.2.2 d_Mo_leave_73)
      · omega
abbrev q_Mo_leaveWith (dC : Nat → ClassId) (dI : Nat → Nat → Nat) (cI cJ : ClassId) (a : Nat → Nat) (th tr dp zi co sh lt ts : Int) (mf : Nat → Int32) (x1 : Int32) : Outcome → State → Prop := fun o t => (∀ v, o = .returned v → ((∃ (tr_ dp_ zi_ : Int), v = none ∧ okM th tr_ dp_ zi_ co sh lt ts mf ∧ (1 ≤ tr_) ∧ sh_I (dC, dI) vcl cI cJ (gsM a th tr_ dp_ zi_ co sh lt ts mf) t.heap) ∨ (∃ (dp_ zi_ : Int) (mf_ : Nat → Int32), v = none ∧ okM th tr dp_ zi_ co sh lt ts mf_ ∧ (tr ≤ 0) ∧ (1 ≤ dp) ∧ (dp_ ≤ 9) ∧ sh_I (dC, dI) vcl cI cJ (gsM a th tr dp_ zi_ co sh lt ts mf_) t.heap))) ∧ (∀ x, o = .threw x → (False))
def rm_Mo_leaveWith : Room := { frames := 6, cells := 0, slots := 0, locals := 132 }
set_option maxHeartbeats 4000000 in
set_option maxRecDepth 100000 in
theorem c_Mo_leaveWith (l : Launch) (hfl : l.flags = pinnedFlags ++ [noTraceFlag]) (dC : Nat → ClassId) (dI : Nat → Nat → Nat) (cI cJ : ClassId) (a : Nat → Nat) (sz : Nat) (th tr dp zi co sh lt ts : Int) (mf : Nat → Int32) (x1 : Int32) (hok : okM th tr dp zi co sh lt ts mf) : tz_Met l ⟨"StoryMachineModel", "leaveWith", "(I)V"⟩ tw_tbl rm_Mo_leaveWith (tzP (dC, dI) vcl cI cJ (gsM a th tr dp zi co sh lt ts mf) a (adM a) [.ref (a 0), .int x1] sz) (tq_Q (q_Mo_leaveWith dC dI cI cJ a th tr dp zi co sh lt ts mf x1) (ga (adM a) sz)) 0 0 0 0 (ga (adM a) sz) := by
  refine tz_ofW (cc := prog_13_method_55_code) (maxL := 2) (ret := none) (by decide) (tx_isM mw_1436) ?_
  intro p e s m args below meth c s₁ B hml hv
  obtain ⟨rfl, hsz, hI0, hK, hst0⟩ := hv
  have hx := B.exec
  have hb := B.bytes
  have hr := B.returns
  have hts := atoms_spec (ws := tw_tbl) B.pre
  have hown : s.vm.findClass "StoryMachineModel" = some m.cls := findClass_of_methodNamed B.named
  have hlocks := B.notSynchronized
  subst hsz
  have hst := fun (H : Heap) (locs : List Loc) (hS : va_S (ga (adM a) s.heap.size) s.heap H locs) (U : State) (hU : U.heap = H) (hW : s.WarmedH U.vm) => zS_all adM_map hI0 hst0 hS hU hW
  have hAC : ∀ q ∈ adM a, ga (adM a) s.heap.size q := fun q h => Or.inl h
  have hA0 : ∀ q, s.heap.size ≤ q → ga (adM a) s.heap.size q := fun q h => Or.inr h
  have hI : sI (dC, dI) vcl cI cJ (gsM a th tr dp zi co sh lt ts mf) (ga (adM a) s.heap.size) s.heap s.heap [] := ⟨hI0, va_S.rf⟩
  clear hI0 hst0
  have hl := lv_entry ([.ref (a 0), .int x1]) (n := 2) (Nat.le_of_ble_eq_true rfl)
  rw [lg_entry_eq]
  generalize (lg_sl ([.ref (a 0), .int x1]) ++ List.replicate (2 - (lg_sl ([.ref (a 0), .int x1])).length) Slot.unset).toArray = ls at hl ⊢
  have hl : lv_has ls 2 [(0, .ref (a 0)), (1, .int x1)] := hl
  generalize hZ : tz_MQ below (tq_Q (q_Mo_leaveWith dC dI cI cJ a th tr dp zi co sh lt ts mf x1) (ga (adM a) s.heap.size)) ([.ref (a 0), .int x1] : List Value).toArray s 0 0 0 0 (ga (adM a) s.heap.size) = Z
  obtain ⟨A, hAe⟩ : ∃ A, A = ga (adM a) s.heap.size := ⟨_, rfl⟩
  rw [← hAe] at hst hAC hA0 hI hZ
  refine sv_start hI (fun H locs hI => ?_)
  obtain ⟨⟨o1, o2⟩, ⟨o3, o4⟩, ⟨o5, o6⟩, ⟨o7, o8⟩, ⟨o9, o10⟩, ⟨o11, o12⟩, ⟨o13, o14⟩, ⟨o15, o16⟩, -⟩ := id hok
  have gx1 := sn_rng x1
  refine lv_aload_n hx hb d_Mo_leaveWith_0 rfl (lv_at hl 0 rfl) ?_
  refine sv_gete (C := "StoryMachineModel") (T := T_Mo) (N := 51) hx hb hts in_Mo hown hK hI 0 kM_0 rfl 25 (by decide) (hts _ mw_1088) rfl d_Mo_leaveWith_1 (fun z17 hz17 => ?_)
  refine sn_if_ne (tgt := 12) hx hb d_Mo_leaveWith_4 (by decide) (fun b18 => ?_) (fun b18 => ?_)
  · subst hZ
    exact tz_ret (W.vret hx hb hr (fun t ht hW => ⟨⟨fun v9 hv9 => by cases hv9; exact (Or.inl ⟨tr, dp, zi, rfl, hok, by omega, by rw [ht]; exact hI.1⟩), fun x9 hx9 => (by cases hx9)⟩, hI.2.F ht⟩) hI.2.2.2 d_Mo_leaveWith_12)
  · refine lv_aload_n hx hb d_Mo_leaveWith_7 rfl (lv_at hl 0 rfl) ?_
    refine lv_iload_n hx hb d_Mo_leaveWith_8 rfl (lv_at hl 1 rfl) ?_
    refine tz_call (A1 := ga (adM a) H.size) (tz_runV (C := "StoryMachineModel") (As := [.int x1]) (rest := []) ⟨hx, hb, hml, hown, hts⟩ (c_Mo_leave l hfl dC dI cI cJ a H.size th tr dp zi co sh lt ts mf x1 hok) (tx_cb (n := 1) hts rfl rfl ⟨Nat.le_of_ble_eq_true rfl, Nat.le_of_ble_eq_true rfl⟩ (tx_code.of (hts _ mw_1292)) (hts _ mw_12) (by decide +kernel) (hts _ mw_1289)) (hts _ mw_1291) (hts _ ms_Mo_leave) ⟨tz_blind, sv_recv (q0 := 0) hts in_Mo hK hI kM_0 rfl, fun U hU hW => ⟨rfl, by rw [hU], by rw [hU]; exact hI.1, va_K.moved hW.alike hK, hst _ _ hI.2 U hU hW⟩⟩ rfl rfl hl.1 rfl (lv_room (Nat.le_of_ble_eq_true rfl)) d_Mo_leaveWith_9 ⟨Nat.le_of_ble_eq_true rfl, Nat.le_of_ble_eq_true rfl⟩) hI.2 (fun q _ h => ga_sub hAC hA0 hI.2 q h) (ga_sub hAC hA0 hI.2) (fun v t H1 locs1 ht hWt hpost _ _ hS => ?_) (fun x t H1 locs1 ht hWt hpost _ _ hS => (hpost.2 x rfl).elim)
    rcases hpost.1 _ rfl with ⟨t_tr19, t_dp20, t_zi21, hv, c22, c22_0, hI1⟩ | ⟨t_dp23, t_zi24, f_mf25, hv, c26, c26_0, c26_1, c26_2, hI1⟩
    · cases hv
      have hI : sI (dC, dI) vcl cI cJ (gsM a th t_tr19 t_dp20 t_zi21 co sh lt ts mf) A s.heap H1 locs1 := ⟨by rw [← ht]; exact hI1, hS⟩
      obtain ⟨-, ⟨o27, o28⟩, ⟨o29, o30⟩, ⟨o31, o32⟩, -, -, -, -, -⟩ := id c22
      clear hpost hI1 hS ht hWt
      revert hI; generalize H1 = H; generalize locs1 = locs; intro hI
      subst hZ
      exact tz_ret (W.vret hx hb hr (fun t ht hW => ⟨⟨fun v9 hv9 => by cases hv9; exact (Or.inl ⟨t_tr19, t_dp20, t_zi21, rfl, c22, by omega, by rw [ht]; exact hI.1⟩), fun x9 hx9 => (by cases hx9)⟩, hI.2.F ht⟩) hI.2.2.2 d_Mo_leaveWith_12)
    · cases hv
      have hI : sI (dC, dI) vcl cI cJ (gsM a th tr t_dp23 t_zi24 co sh lt ts f_mf25) A s.heap H1 locs1 := ⟨by rw [← ht]; exact hI1, hS⟩
      obtain ⟨-, -, ⟨o33, o34⟩, ⟨o35, o36⟩, -, -, -, -, -⟩ := id c26
      clear hpost hI1 hS ht hWt
      revert hI; generalize H1 = H; generalize locs1 = locs; intro hI
      subst hZ
      exact tz_ret (W.vret hx hb hr (fun t ht hW => ⟨⟨fun v9 hv9 => by cases hv9; exact (Or.inr (⟨t_dp23, t_zi24, f_mf25, rfl, c26, by omega, by omega, by omega, by rw [ht]; exact hI.1⟩)), fun x9 hx9 => (by cases hx9)⟩, hI.2.F ht⟩) hI.2.2.2 d_Mo_leaveWith_12)
