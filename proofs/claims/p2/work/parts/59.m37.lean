abbrev q_Mo_separates (dC : Nat → ClassId) (dI : Nat → Nat → Nat) (cI cJ : ClassId) (a : Nat → Nat) (th tr dp zi co sh lt ts : Int) (mf : Nat → Int32) (x1 : Int32) : Outcome → State → Prop := fun o t => (∀ v, o = .returned v → ((∃ (z : Int32) (tr_ : Int), v = some (.int z) ∧ okM th tr_ dp zi co sh lt ts mf ∧ (0 ≤ z.toInt) ∧ (z.toInt ≤ 1) ∧ (1 ≤ tr_) ∧ sh_I (dC, dI) vcl cI cJ (gsM a th tr_ dp zi co sh lt ts mf) t.heap) ∨ (∃ (z : Int32), v = some (.int z) ∧ okM th tr dp zi co sh lt ts mf ∧ (0 ≤ z.toInt) ∧ (z.toInt ≤ 1) ∧ (tr ≤ 0) ∧ sh_I (dC, dI) vcl cI cJ (gsM a th tr dp zi co sh lt ts mf) t.heap))) ∧ (∀ x, o = .threw x → (False))
def rm_Mo_separates : Room := { frames := 3, cells := 0, slots := 0, locals := 66 }
set_option maxHeartbeats 4000000 in
set_option maxRecDepth 100000 in
theorem c_Mo_separates (l : Launch) (hfl : l.flags = pinnedFlags ++ [noTraceFlag]) (dC : Nat → ClassId) (dI : Nat → Nat → Nat) (cI cJ : ClassId) (a : Nat → Nat) (sz : Nat) (th tr dp zi co sh lt ts : Int) (mf : Nat → Int32) (x1 : Int32) (hok : okM th tr dp zi co sh lt ts mf) : tz_Met l ⟨"StoryMachineModel", "separates", "(I)Z"⟩ tw_tbl rm_Mo_separates (tzP (dC, dI) vcl cI cJ (gsM a th tr dp zi co sh lt ts mf) a (adM a) [.ref (a 0), .int x1] sz) (tq_Q (q_Mo_separates dC dI cI cJ a th tr dp zi co sh lt ts mf x1) (ga (adM a) sz)) 0 0 0 0 (ga (adM a) sz) := by
  refine tz_ofW (cc := prog_13_method_63_code) (maxL := 6) (ret := (some .boolean)) (by decide) (tx_isM mw_1464) ?_
  intro p e s m args below meth c s₁ B hml hv
  obtain ⟨rfl, hsz, hI0, hK, hst0⟩ := hv
  have hx := B.exec
  have hb := B.bytes
  have hr := B.returns
  have hts := atoms_spec (ws := tw_tbl) B.pre
  have hown : s.vm.findClass "StoryMachineModel" = some m.cls := findClass_of_methodNamed B.named
  have hlocks := B.notSynchronized
  subst hsz
  have hst := fun (H : Heap) (locs : List Loc) (hS : va_S (ga (adM a) s.heap.size) s.heap H locs) (U : State) (hU : U.heap = H) (hW : s.WarmedH U.vm) => zS_all adM_map hI0 hst0 hS hU hW
  have hAC : ∀ q ∈ adM a, ga (adM a) s.heap.size q := fun q h => Or.inl h
  have hA0 : ∀ q, s.heap.size ≤ q → ga (adM a) s.heap.size q := fun q h => Or.inr h
  have hI : sI (dC, dI) vcl cI cJ (gsM a th tr dp zi co sh lt ts mf) (ga (adM a) s.heap.size) s.heap s.heap [] := ⟨hI0, va_S.rf⟩
  clear hI0 hst0
  have hl := lv_entry ([.ref (a 0), .int x1]) (n := 6) (Nat.le_of_ble_eq_true rfl)
  rw [lg_entry_eq]
  generalize (lg_sl ([.ref (a 0), .int x1]) ++ List.replicate (6 - (lg_sl ([.ref (a 0), .int x1])).length) Slot.unset).toArray = ls at hl ⊢
  have hl : lv_has ls 6 [(0, .ref (a 0)), (1, .int x1)] := hl
  generalize hZ : tz_MQ below (tq_Q (q_Mo_separates dC dI cI cJ a th tr dp zi co sh lt ts mf x1) (ga (adM a) s.heap.size)) ([.ref (a 0), .int x1] : List Value).toArray s 0 0 0 0 (ga (adM a) s.heap.size) = Z
  obtain ⟨A, hAe⟩ : ∃ A, A = ga (adM a) s.heap.size := ⟨_, rfl⟩
  rw [← hAe] at hst hAC hA0 hI hZ
  refine sv_start hI (fun H locs hI => ?_)
  obtain ⟨⟨o1, o2⟩, ⟨o3, o4⟩, ⟨o5, o6⟩, ⟨o7, o8⟩, ⟨o9, o10⟩, ⟨o11, o12⟩, ⟨o13, o14⟩, ⟨o15, o16⟩, -⟩ := id hok
  have gx1 := sn_rng x1
  have j19p : ∀ (H : Heap) (locs : List Loc) (ls : Array Slot) (v19p_2 v19p_3 v19p_4 v19p_5 : Int32) (t19p_tr : Int), sI (dC, dI) vcl cI cJ (gsM a th t19p_tr dp zi co sh lt ts mf) A s.heap H locs → okM th t19p_tr dp zi co sh lt ts mf → 0 ≤ v19p_2.toInt → v19p_2.toInt ≤ 65535 → 0 ≤ v19p_3.toInt → v19p_3.toInt ≤ 255 → 0 ≤ v19p_4.toInt → v19p_4.toInt ≤ 1 → 1 ≤ v19p_5.toInt → v19p_5.toInt ≤ 256 → 1 ≤ t19p_tr → t19p_tr ≤ 4 → lv_has ls 6 [(0, .ref (a 0)), (1, .int x1), (2, .int v19p_2), (3, .int v19p_3), (4, .int v19p_4), (5, .int v19p_5)] → W p l e (headSpec tw_tbl rm_Mo_separates).room s m ([.ref (a 0), .int x1] : List Value).toArray below meth c H locs 0 0 Z (F0 m 19 ls []) := by
    intro H locs ls v19p_2 v19p_3 v19p_4 v19p_5 t19p_tr hI hok g19_0 g19_1 g19_2 g19_3 g19_4 g19_5 g19_6 g19_7 g19_8 g19_9 hl
    obtain ⟨⟨o17, o18⟩, ⟨o19, o20⟩, ⟨o21, o22⟩, ⟨o23, o24⟩, ⟨o25, o26⟩, ⟨o27, o28⟩, ⟨o29, o30⟩, ⟨o31, o32⟩, -⟩ := id hok
    refine lv_iload hx hb d_Mo_separates_19 (lv_at hl 5 rfl) ?_
    refine lv_iload_n hx hb d_Mo_separates_21 rfl (lv_at hl 3 rfl) ?_
    refine sn_icmp_gt (tgt := 62) hx hb d_Mo_separates_22 (by decide) (fun b33 => ?_) (fun b33 => ?_)
    · refine lv_iload hx hb d_Mo_separates_62 (lv_at hl 4 rfl) ?_
      subst hZ
      exact tz_ret (W.zret (v := v19p_4) hx hb hr (sn_bool (by omega) (by omega)).1 (fun t ht hW => ⟨⟨fun v9 hv9 => by cases hv9; exact (Or.inl ⟨v19p_4, t19p_tr, rfl, hok, by omega, by omega, by omega, by rw [ht]; exact hI.1⟩), fun x9 hx9 => (by cases hx9)⟩, hI.2.F ht⟩) hI.2.2.2 d_Mo_separates_64)
    · refine lv_aload_n hx hb d_Mo_separates_25 rfl (lv_at hl 0 rfl) ?_
      refine sv_gete (C := "StoryMachineModel") (T := T_Mo) (N := 51) hx hb hts in_Mo hown hK hI 0 kM_0 rfl 25 (by decide) (hts _ mw_1088) rfl d_Mo_separates_26 (fun z34 hz34 => ?_)
      refine sn_if_ne (tgt := 62) hx hb d_Mo_separates_29 (by decide) (fun b35 => ?_) (fun b35 => ?_)
      · refine lv_iload hx hb d_Mo_separates_62 (lv_at hl 4 rfl) ?_
        subst hZ
        exact tz_ret (W.zret (v := v19p_4) hx hb hr (sn_bool (by omega) (by omega)).1 (fun t ht hW => ⟨⟨fun v9 hv9 => by cases hv9; exact (Or.inl ⟨v19p_4, t19p_tr, rfl, hok, by omega, by omega, by omega, by rw [ht]; exact hI.1⟩), fun x9 hx9 => (by cases hx9)⟩, hI.2.F ht⟩) hI.2.2.2 d_Mo_separates_64)
      · omega
  have j19z : ∀ (n : Nat) (H : Heap) (locs : List Loc) (ls : Array Slot) (v19z_2 v19z_3 v19z_4 v19z_5 : Int32), sI (dC, dI) vcl cI cJ (gsM a th tr dp zi co sh lt ts mf) A s.heap H locs → okM th tr dp zi co sh lt ts mf → 0 ≤ v19z_2.toInt → v19z_2.toInt ≤ 511 → 0 ≤ v19z_3.toInt → v19z_3.toInt ≤ 255 → 0 ≤ v19z_4.toInt → v19z_4.toInt ≤ 1 → 1 ≤ v19z_5.toInt → v19z_5.toInt ≤ 256 → tr ≤ 0 → lv_has ls 6 [(0, .ref (a 0)), (1, .int x1), (2, .int v19z_2), (3, .int v19z_3), (4, .int v19z_4), (5, .int v19z_5)] → 256 - v19z_5.toInt < (n : Int) → W p l e (headSpec tw_tbl rm_Mo_separates).room s m ([.ref (a 0), .int x1] : List Value).toArray below meth c H locs 0 0 Z (F0 m 19 ls []) := by
    intro n
    induction n with
    | zero => intro H locs ls v19z_2 v19z_3 v19z_4 v19z_5 hI hok g19_0 g19_1 g19_2 g19_3 g19_4 g19_5 g19_6 g19_7 g19_8 hl hme; exfalso; obtain ⟨⟨o36, o37⟩, ⟨o38, o39⟩, ⟨o40, o41⟩, ⟨o42, o43⟩, ⟨o44, o45⟩, ⟨o46, o47⟩, ⟨o48, o49⟩, ⟨o50, o51⟩, -⟩ := id hok; omega
    | succ n ih =>
      intro H locs ls v19z_2 v19z_3 v19z_4 v19z_5 hI hok g19_0 g19_1 g19_2 g19_3 g19_4 g19_5 g19_6 g19_7 g19_8 hl hme
      obtain ⟨⟨o52, o53⟩, ⟨o54, o55⟩, ⟨o56, o57⟩, ⟨o58, o59⟩, ⟨o60, o61⟩, ⟨o62, o63⟩, ⟨o64, o65⟩, ⟨o66, o67⟩, -⟩ := id hok
      have j49p : ∀ (H : Heap) (locs : List Loc) (ls : Array Slot) (t49p_tr : Int), sI (dC, dI) vcl cI cJ (gsM a th t49p_tr dp zi co sh lt ts mf) A s.heap H locs → okM th t49p_tr dp zi co sh lt ts mf → 1 ≤ t49p_tr → t49p_tr ≤ 4 → tr ≤ 0 → 1 ≤ v19z_3.toInt → v19z_5.toInt ≤ 255 → lv_has ls 6 [(0, .ref (a 0)), (1, .int x1), (2, .int v19z_2), (3, .int v19z_3), (4, .int v19z_4), (5, .int v19z_5)] → W p l e (headSpec tw_tbl rm_Mo_separates).room s m ([.ref (a 0), .int x1] : List Value).toArray below meth c H locs 0 0 Z (F0 m 49 ls []) := by
        intro H locs ls t49p_tr hI hok g49_0 g49_1 g49_2 g49_3 g49_4 hl
        obtain ⟨⟨o68, o69⟩, ⟨o70, o71⟩, ⟨o72, o73⟩, ⟨o74, o75⟩, ⟨o76, o77⟩, ⟨o78, o79⟩, ⟨o80, o81⟩, ⟨o82, o83⟩, -⟩ := id hok
        refine sn_iconst hx hb d_Mo_separates_49 (by decide) (fun z84 hz84 => ?_)
        refine lv_goto (tgt := 54) hx hb d_Mo_separates_50 (by decide) ?_
        refine lv_istore (lv' := [(4, .int z84), (0, .ref (a 0)), (1, .int x1), (2, .int v19z_2), (3, .int v19z_3), (5, .int v19z_5)]) hx hb d_Mo_separates_54 hl (by decide) rfl (fun ls hl => ?_)
        refine sn_iinc (k := 5) hx hb d_Mo_separates_56 hl rfl (by decide) (by decide) (by omega) (by omega) (fun ls z85 hz85 hl => ?_)
        have hl : lv_has ls 6 [(5, .int z85), (4, .int z84), (0, .ref (a 0)), (1, .int x1), (2, .int v19z_2), (3, .int v19z_3)] := hl
        refine lv_goto (tgt := 19) hx hb d_Mo_separates_59 (by decide) ?_
        exact j19p _ _ _ v19z_2 v19z_3 z84 z85 t49p_tr hI hok (by omega) (by omega) (by omega) (by omega) (by omega) (by omega) (by omega) (by omega) (by omega) (by omega) (lv_sub hl [2, 3, 4, 5, 1, 0] rfl)
      have j49z : ∀ (H : Heap) (locs : List Loc) (ls : Array Slot), sI (dC, dI) vcl cI cJ (gsM a th tr dp zi co sh lt ts mf) A s.heap H locs → okM th tr dp zi co sh lt ts mf → tr ≤ 0 → 1 ≤ v19z_3.toInt → v19z_5.toInt ≤ 255 → lv_has ls 6 [(0, .ref (a 0)), (1, .int x1), (2, .int v19z_2), (3, .int v19z_3), (4, .int v19z_4), (5, .int v19z_5)] → W p l e (headSpec tw_tbl rm_Mo_separates).room s m ([.ref (a 0), .int x1] : List Value).toArray below meth c H locs 0 0 Z (F0 m 49 ls []) := by
        intro H locs ls hI hok g49_0 g49_1 g49_2 hl
        obtain ⟨⟨o86, o87⟩, ⟨o88, o89⟩, ⟨o90, o91⟩, ⟨o92, o93⟩, ⟨o94, o95⟩, ⟨o96, o97⟩, ⟨o98, o99⟩, ⟨o100, o101⟩, -⟩ := id hok
        refine sn_iconst hx hb d_Mo_separates_49 (by decide) (fun z102 hz102 => ?_)
        refine lv_goto (tgt := 54) hx hb d_Mo_separates_50 (by decide) ?_
        refine lv_istore (lv' := [(4, .int z102), (0, .ref (a 0)), (1, .int x1), (2, .int v19z_2), (3, .int v19z_3), (5, .int v19z_5)]) hx hb d_Mo_separates_54 hl (by decide) rfl (fun ls hl => ?_)
        refine sn_iinc (k := 5) hx hb d_Mo_separates_56 hl rfl (by decide) (by decide) (by omega) (by omega) (fun ls z103 hz103 hl => ?_)
        have hl : lv_has ls 6 [(5, .int z103), (4, .int z102), (0, .ref (a 0)), (1, .int x1), (2, .int v19z_2), (3, .int v19z_3)] := hl
        refine lv_goto (tgt := 19) hx hb d_Mo_separates_59 (by decide) ?_
        exact ih _ _ _ v19z_2 v19z_3 z102 z103 hI hok (by omega) (by omega) (by omega) (by omega) (by omega) (by omega) (by omega) (by omega) (by omega) (lv_sub hl [2, 3, 4, 5, 1, 0] rfl) (by omega)
      refine lv_iload hx hb d_Mo_separates_19 (lv_at hl 5 rfl) ?_
      refine lv_iload_n hx hb d_Mo_separates_21 rfl (lv_at hl 3 rfl) ?_
      refine sn_icmp_gt (tgt := 62) hx hb d_Mo_separates_22 (by decide) (fun b104 => ?_) (fun b104 => ?_)
      · refine lv_iload hx hb d_Mo_separates_62 (lv_at hl 4 rfl) ?_
        subst hZ
        exact tz_ret (W.zret (v := v19z_4) hx hb hr (sn_bool (by omega) (by omega)).1 (fun t ht hW => ⟨⟨fun v9 hv9 => by cases hv9; exact (Or.inr (⟨v19z_4, rfl, hok, by omega, by omega, by omega, by rw [ht]; exact hI.1⟩)), fun x9 hx9 => (by cases hx9)⟩, hI.2.F ht⟩) hI.2.2.2 d_Mo_separates_64)
      · refine lv_aload_n hx hb d_Mo_separates_25 rfl (lv_at hl 0 rfl) ?_
        refine sv_gete (C := "StoryMachineModel") (T := T_Mo) (N := 51) hx hb hts in_Mo hown hK hI 0 kM_0 rfl 25 (by decide) (hts _ mw_1088) rfl d_Mo_separates_26 (fun z105 hz105 => ?_)
        refine sn_if_ne (tgt := 62) hx hb d_Mo_separates_29 (by decide) (fun b106 => ?_) (fun b106 => ?_)
        · omega
        · refine lv_aload_n hx hb d_Mo_separates_32 rfl (lv_at hl 0 rfl) ?_
          refine lv_iload_n hx hb d_Mo_separates_33 rfl (lv_at hl 2 rfl) ?_
          refine lv_iload hx hb d_Mo_separates_34 (lv_at hl 5 rfl) ?_
          refine sn_iadd hx hb d_Mo_separates_36 (by omega) (by omega) (fun z107 hz107 => ?_)
          refine tz_call (A1 := ga (adM a) H.size) (tz_runV (C := "StoryMachineModel") (As := [.int z107]) (rest := []) ⟨hx, hb, hml, hown, hts⟩ (c_Mo_byteAt l hfl dC dI cI cJ a H.size th tr dp zi co sh lt ts mf z107 hok) (tx_cb (n := 1) hts rfl rfl ⟨Nat.le_of_ble_eq_true rfl, Nat.le_of_ble_eq_true rfl⟩ (tx_code.of (hts _ mw_1236)) (hts _ mw_12) (by decide +kernel) (hts _ mw_1233)) (hts _ mw_1235) (hts _ ms_Mo_byteAt) ⟨tz_blind, sv_recv (q0 := 0) hts in_Mo hK hI kM_0 rfl, fun U hU hW => ⟨rfl, by rw [hU], by rw [hU]; exact hI.1, va_K.moved hW.alike hK, hst _ _ hI.2 U hU hW⟩⟩ rfl rfl hl.1 rfl (lv_room (Nat.le_of_ble_eq_true rfl)) d_Mo_separates_37 ⟨Nat.le_of_ble_eq_true rfl, Nat.le_of_ble_eq_true rfl⟩) hI.2 (fun q _ h => ga_sub hAC hA0 hI.2 q h) (ga_sub hAC hA0 hI.2) (fun v t H1 locs1 ht hWt hpost _ _ hS => ?_) (fun x t H1 locs1 ht hWt hpost _ _ hS => (hpost.2 x rfl).elim)
          rcases hpost.1 _ rfl with ⟨z108, t_tr109, hv, c110, c110_0, c110_1, c110_2, hI1⟩ | ⟨z111, hv, c112, c112_0, c112_1, c112_2, c112_3, c112_4, hI1⟩
          · cases hv
            have hI : sI (dC, dI) vcl cI cJ (gsM a th t_tr109 dp zi co sh lt ts mf) A s.heap H1 locs1 := ⟨by rw [← ht]; exact hI1, hS⟩
            obtain ⟨-, ⟨o113, o114⟩, -, -, -, -, -, -, -⟩ := id c110
            clear hpost hI1 hS ht hWt
            revert hI; generalize H1 = H; generalize locs1 = locs; intro hI
            refine lv_iload_n hx hb d_Mo_separates_40 rfl (lv_at hl 1 rfl) ?_
            refine sn_icmp_eq (tgt := 49) hx hb d_Mo_separates_41 (by decide) (fun b115 => ?_) (fun b115 => ?_)
            · exact j49p _ _ _ t_tr109 hI c110 (by omega) (by omega) (by omega) (by omega) (by omega) (lv_sub hl [0, 1, 2, 3, 4, 5] rfl)
            · refine lv_iload hx hb d_Mo_separates_44 (lv_at hl 4 rfl) ?_
              refine sn_if_eq (tgt := 53) hx hb d_Mo_separates_46 (by decide) (fun b116 => ?_) (fun b116 => ?_)
              · refine sn_iconst hx hb d_Mo_separates_53 (by decide) (fun z117 hz117 => ?_)
                refine lv_istore (lv' := [(4, .int z117), (0, .ref (a 0)), (1, .int x1), (2, .int v19z_2), (3, .int v19z_3), (5, .int v19z_5)]) hx hb d_Mo_separates_54 hl (by decide) rfl (fun ls hl => ?_)
                refine sn_iinc (k := 5) hx hb d_Mo_separates_56 hl rfl (by decide) (by decide) (by omega) (by omega) (fun ls z118 hz118 hl => ?_)
                have hl : lv_has ls 6 [(5, .int z118), (4, .int z117), (0, .ref (a 0)), (1, .int x1), (2, .int v19z_2), (3, .int v19z_3)] := hl
                refine lv_goto (tgt := 19) hx hb d_Mo_separates_59 (by decide) ?_
                exact j19p _ _ _ v19z_2 v19z_3 z117 z118 t_tr109 hI c110 (by omega) (by omega) (by omega) (by omega) (by omega) (by omega) (by omega) (by omega) (by omega) (by omega) (lv_sub hl [2, 3, 4, 5, 1, 0] rfl)
              · exact j49p _ _ _ t_tr109 hI c110 (by omega) (by omega) (by omega) (by omega) (by omega) (lv_sub hl [0, 1, 2, 3, 4, 5] rfl)
          · cases hv
            have hI : sI (dC, dI) vcl cI cJ (gsM a th tr dp zi co sh lt ts mf) A s.heap H1 locs1 := ⟨by rw [← ht]; exact hI1, hS⟩
            clear hpost hI1 hS ht hWt
            revert hI; generalize H1 = H; generalize locs1 = locs; intro hI
            refine lv_iload_n hx hb d_Mo_separates_40 rfl (lv_at hl 1 rfl) ?_
            refine sn_icmp_eq (tgt := 49) hx hb d_Mo_separates_41 (by decide) (fun b119 => ?_) (fun b119 => ?_)
            · exact j49z _ _ _  hI c112 (by omega) (by omega) (by omega) (lv_sub hl [0, 1, 2, 3, 4, 5] rfl)
            · refine lv_iload hx hb d_Mo_separates_44 (lv_at hl 4 rfl) ?_
              refine sn_if_eq (tgt := 53) hx hb d_Mo_separates_46 (by decide) (fun b120 => ?_) (fun b120 => ?_)
              · refine sn_iconst hx hb d_Mo_separates_53 (by decide) (fun z121 hz121 => ?_)
                refine lv_istore (lv' := [(4, .int z121), (0, .ref (a 0)), (1, .int x1), (2, .int v19z_2), (3, .int v19z_3), (5, .int v19z_5)]) hx hb d_Mo_separates_54 hl (by decide) rfl (fun ls hl => ?_)
                refine sn_iinc (k := 5) hx hb d_Mo_separates_56 hl rfl (by decide) (by decide) (by omega) (by omega) (fun ls z122 hz122 hl => ?_)
                have hl : lv_has ls 6 [(5, .int z122), (4, .int z121), (0, .ref (a 0)), (1, .int x1), (2, .int v19z_2), (3, .int v19z_3)] := hl
                refine lv_goto (tgt := 19) hx hb d_Mo_separates_59 (by decide) ?_
                exact ih _ _ _ v19z_2 v19z_3 z121 z122 hI c112 (by omega) (by omega) (by omega) (by omega) (by omega) (by omega) (by omega) (by omega) (by omega) (lv_sub hl [2, 3, 4, 5, 1, 0] rfl) (by omega)
              · exact j49z _ _ _  hI c112 (by omega) (by omega) (by omega) (lv_sub hl [0, 1, 2, 3, 4, 5] rfl)
  refine lv_aload_n hx hb d_Mo_separates_0 rfl (lv_at hl 0 rfl) ?_
  refine sn_bipush hx hb d_Mo_separates_1 (by decide) (fun z123 hz123 => ?_)
  refine tz_call (A1 := ga (adM a) H.size) (tz_runV (C := "StoryMachineModel") (As := [.int z123]) (rest := []) ⟨hx, hb, hml, hown, hts⟩ (c_Mo_wordAt l hfl dC dI cI cJ a H.size th tr dp zi co sh lt ts mf z123 hok) (tx_cb (n := 1) hts rfl rfl ⟨Nat.le_of_ble_eq_true rfl, Nat.le_of_ble_eq_true rfl⟩ (tx_code.of (hts _ mw_1252)) (hts _ mw_12) (by decide +kernel) (hts _ mw_1249)) (hts _ mw_1251) (hts _ ms_Mo_wordAt) ⟨tz_blind, sv_recv (q0 := 0) hts in_Mo hK hI kM_0 rfl, fun U hU hW => ⟨rfl, by rw [hU], by rw [hU]; exact hI.1, va_K.moved hW.alike hK, hst _ _ hI.2 U hU hW⟩⟩ rfl rfl hl.1 rfl (lv_room (Nat.le_of_ble_eq_true rfl)) d_Mo_separates_3 ⟨Nat.le_of_ble_eq_true rfl, Nat.le_of_ble_eq_true rfl⟩) hI.2 (fun q _ h => ga_sub hAC hA0 hI.2 q h) (ga_sub hAC hA0 hI.2) (fun v t H1 locs1 ht hWt hpost _ _ hS => ?_) (fun x t H1 locs1 ht hWt hpost _ _ hS => (hpost.2 x rfl).elim)
  rcases hpost.1 _ rfl with ⟨z124, t_tr125, hv, c126, c126_0, c126_1, c126_2, hI1⟩ | ⟨z127, hv, c128, c128_0, c128_1, c128_2, c128_3, c128_4, hI1⟩
  · cases hv
    have hI : sI (dC, dI) vcl cI cJ (gsM a th t_tr125 dp zi co sh lt ts mf) A s.heap H1 locs1 := ⟨by rw [← ht]; exact hI1, hS⟩
    obtain ⟨-, ⟨o129, o130⟩, -, -, -, -, -, -, -⟩ := id c126
    clear hpost hI1 hS ht hWt
    revert hI; generalize H1 = H; generalize locs1 = locs; intro hI
    refine lv_istore_n (lv' := [(2, .int z124), (0, .ref (a 0)), (1, .int x1)]) hx hb d_Mo_separates_6 rfl hl (by decide) rfl (fun ls hl => ?_)
    refine lv_aload_n hx hb d_Mo_separates_7 rfl (lv_at hl 1 rfl) ?_
    refine lv_iload_n hx hb d_Mo_separates_8 rfl (lv_at hl 0 rfl) ?_
    refine tz_call (A1 := ga (adM a) H.size) (tz_runV (C := "StoryMachineModel") (As := [.int z124]) (rest := []) ⟨hx, hb, hml, hown, hts⟩ (c_Mo_byteAt l hfl dC dI cI cJ a H.size th t_tr125 dp zi co sh lt ts mf z124 c126) (tx_cb (n := 1) hts rfl rfl ⟨Nat.le_of_ble_eq_true rfl, Nat.le_of_ble_eq_true rfl⟩ (tx_code.of (hts _ mw_1236)) (hts _ mw_12) (by decide +kernel) (hts _ mw_1233)) (hts _ mw_1235) (hts _ ms_Mo_byteAt) ⟨tz_blind, sv_recv (q0 := 0) hts in_Mo hK hI kM_0 rfl, fun U hU hW => ⟨rfl, by rw [hU], by rw [hU]; exact hI.1, va_K.moved hW.alike hK, hst _ _ hI.2 U hU hW⟩⟩ rfl rfl hl.1 rfl (lv_room (Nat.le_of_ble_eq_true rfl)) d_Mo_separates_9 ⟨Nat.le_of_ble_eq_true rfl, Nat.le_of_ble_eq_true rfl⟩) hI.2 (fun q _ h => ga_sub hAC hA0 hI.2 q h) (ga_sub hAC hA0 hI.2) (fun v t H1 locs1 ht hWt hpost _ _ hS => ?_) (fun x t H1 locs1 ht hWt hpost _ _ hS => (hpost.2 x rfl).elim)
    rcases hpost.1 _ rfl with ⟨z131, t_tr132, hv, c133, c133_0, c133_1, c133_2, hI1⟩ | ⟨z134, hv, c135, c135_0, c135_1, c135_2, c135_3, c135_4, hI1⟩
    · cases hv
      have hI : sI (dC, dI) vcl cI cJ (gsM a th t_tr132 dp zi co sh lt ts mf) A s.heap H1 locs1 := ⟨by rw [← ht]; exact hI1, hS⟩
      obtain ⟨-, ⟨o136, o137⟩, -, -, -, -, -, -, -⟩ := id c133
      clear hpost hI1 hS ht hWt
      revert hI; generalize H1 = H; generalize locs1 = locs; intro hI
      refine lv_istore_n (lv' := [(3, .int z131), (2, .int z124), (0, .ref (a 0)), (1, .int x1)]) hx hb d_Mo_separates_12 rfl hl (by decide) rfl (fun ls hl => ?_)
      refine sn_iconst hx hb d_Mo_separates_13 (by decide) (fun z138 hz138 => ?_)
      refine lv_istore (lv' := [(4, .int z138), (3, .int z131), (2, .int z124), (0, .ref (a 0)), (1, .int x1)]) hx hb d_Mo_separates_14 hl (by decide) rfl (fun ls hl => ?_)
      refine sn_iconst hx hb d_Mo_separates_16 (by decide) (fun z139 hz139 => ?_)
      refine lv_istore (lv' := [(5, .int z139), (4, .int z138), (3, .int z131), (2, .int z124), (0, .ref (a 0)), (1, .int x1)]) hx hb d_Mo_separates_17 hl (by decide) rfl (fun ls hl => ?_)
      exact j19p _ _ _ z124 z131 z138 z139 t_tr132 hI c133 (by omega) (by omega) (by omega) (by omega) (by omega) (by omega) (by omega) (by omega) (by omega) (by omega) (lv_sub hl [4, 5, 3, 2, 1, 0] rfl)
    · omega
  · cases hv
    have hI : sI (dC, dI) vcl cI cJ (gsM a th tr dp zi co sh lt ts mf) A s.heap H1 locs1 := ⟨by rw [← ht]; exact hI1, hS⟩
    clear hpost hI1 hS ht hWt
    revert hI; generalize H1 = H; generalize locs1 = locs; intro hI
    refine lv_istore_n (lv' := [(2, .int z127), (0, .ref (a 0)), (1, .int x1)]) hx hb d_Mo_separates_6 rfl hl (by decide) rfl (fun ls hl => ?_)
    refine lv_aload_n hx hb d_Mo_separates_7 rfl (lv_at hl 1 rfl) ?_
    refine lv_iload_n hx hb d_Mo_separates_8 rfl (lv_at hl 0 rfl) ?_
    refine tz_call (A1 := ga (adM a) H.size) (tz_runV (C := "StoryMachineModel") (As := [.int z127]) (rest := []) ⟨hx, hb, hml, hown, hts⟩ (c_Mo_byteAt l hfl dC dI cI cJ a H.size th tr dp zi co sh lt ts mf z127 c128) (tx_cb (n := 1) hts rfl rfl ⟨Nat.le_of_ble_eq_true rfl, Nat.le_of_ble_eq_true rfl⟩ (tx_code.of (hts _ mw_1236)) (hts _ mw_12) (by decide +kernel) (hts _ mw_1233)) (hts _ mw_1235) (hts _ ms_Mo_byteAt) ⟨tz_blind, sv_recv (q0 := 0) hts in_Mo hK hI kM_0 rfl, fun U hU hW => ⟨rfl, by rw [hU], by rw [hU]; exact hI.1, va_K.moved hW.alike hK, hst _ _ hI.2 U hU hW⟩⟩ rfl rfl hl.1 rfl (lv_room (Nat.le_of_ble_eq_true rfl)) d_Mo_separates_9 ⟨Nat.le_of_ble_eq_true rfl, Nat.le_of_ble_eq_true rfl⟩) hI.2 (fun q _ h => ga_sub hAC hA0 hI.2 q h) (ga_sub hAC hA0 hI.2) (fun v t H1 locs1 ht hWt hpost _ _ hS => ?_) (fun x t H1 locs1 ht hWt hpost _ _ hS => (hpost.2 x rfl).elim)
    rcases hpost.1 _ rfl with ⟨z140, t_tr141, hv, c142, c142_0, c142_1, c142_2, hI1⟩ | ⟨z143, hv, c144, c144_0, c144_1, c144_2, c144_3, c144_4, hI1⟩
    · cases hv
      have hI : sI (dC, dI) vcl cI cJ (gsM a th t_tr141 dp zi co sh lt ts mf) A s.heap H1 locs1 := ⟨by rw [← ht]; exact hI1, hS⟩
      obtain ⟨-, ⟨o145, o146⟩, -, -, -, -, -, -, -⟩ := id c142
      clear hpost hI1 hS ht hWt
      revert hI; generalize H1 = H; generalize locs1 = locs; intro hI
      refine lv_istore_n (lv' := [(3, .int z140), (2, .int z127), (0, .ref (a 0)), (1, .int x1)]) hx hb d_Mo_separates_12 rfl hl (by decide) rfl (fun ls hl => ?_)
      refine sn_iconst hx hb d_Mo_separates_13 (by decide) (fun z147 hz147 => ?_)
      refine lv_istore (lv' := [(4, .int z147), (3, .int z140), (2, .int z127), (0, .ref (a 0)), (1, .int x1)]) hx hb d_Mo_separates_14 hl (by decide) rfl (fun ls hl => ?_)
      refine sn_iconst hx hb d_Mo_separates_16 (by decide) (fun z148 hz148 => ?_)
      refine lv_istore (lv' := [(5, .int z148), (4, .int z147), (3, .int z140), (2, .int z127), (0, .ref (a 0)), (1, .int x1)]) hx hb d_Mo_separates_17 hl (by decide) rfl (fun ls hl => ?_)
      exact j19p _ _ _ z127 z140 z147 z148 t_tr141 hI c142 (by omega) (by omega) (by omega) (by omega) (by omega) (by omega) (by omega) (by omega) (by omega) (by omega) (lv_sub hl [4, 5, 3, 2, 1, 0] rfl)
    · cases hv
      have hI : sI (dC, dI) vcl cI cJ (gsM a th tr dp zi co sh lt ts mf) A s.heap H1 locs1 := ⟨by rw [← ht]; exact hI1, hS⟩
      clear hpost hI1 hS ht hWt
      revert hI; generalize H1 = H; generalize locs1 = locs; intro hI
      refine lv_istore_n (lv' := [(3, .int z143), (2, .int z127), (0, .ref (a 0)), (1, .int x1)]) hx hb d_Mo_separates_12 rfl hl (by decide) rfl (fun ls hl => ?_)
      refine sn_iconst hx hb d_Mo_separates_13 (by decide) (fun z149 hz149 => ?_)
      refine lv_istore (lv' := [(4, .int z149), (3, .int z143), (2, .int z127), (0, .ref (a 0)), (1, .int x1)]) hx hb d_Mo_separates_14 hl (by decide) rfl (fun ls hl => ?_)
      refine sn_iconst hx hb d_Mo_separates_16 (by decide) (fun z150 hz150 => ?_)
      refine lv_istore (lv' := [(5, .int z150), (4, .int z149), (3, .int z143), (2, .int z127), (0, .ref (a 0)), (1, .int x1)]) hx hb d_Mo_separates_17 hl (by decide) rfl (fun ls hl => ?_)
      exact j19z 256 _ _ _ z127 z143 z149 z150 hI c144 (by omega) (by omega) (by omega) (by omega) (by omega) (by omega) (by omega) (by omega) (by omega) (lv_sub hl [4, 5, 3, 2, 1, 0] rfl) (by omega)
abbrev q_Mo_begins (dC : Nat → ClassId) (dI : Nat → Nat → Nat) (cI cJ : ClassId) (a : Nat → Nat) (th tr dp zi co sh lt ts : Int) (mf : Nat → Int32) (x1 : Int32) (x2 : Int32) : Outcome → State → Prop := fun o t => (∀ v, o = .returned v → ((∃ (z : Int32) (tr_ : Int), v = some (.int z) ∧ okM th tr_ dp zi co sh lt ts mf ∧ (0 ≤ z.toInt) ∧ (z.toInt ≤ 0) ∧ (1 ≤ tr_) ∧ sh_I (dC, dI) vcl cI cJ (gsM a th tr_ dp zi co sh lt ts mf) t.heap) ∨ (∃ (z : Int32) (tr_ : Int), v = some (.int z) ∧ okM th tr_ dp zi co sh lt ts mf ∧ (1 ≤ z.toInt) ∧ (z.toInt ≤ 1) ∧ (1 ≤ tr_) ∧ sh_I (dC, dI) vcl cI cJ (gsM a th tr_ dp zi co sh lt ts mf) t.heap) ∨ (∃ (z : Int32), v = some (.int z) ∧ okM th tr dp zi co sh lt ts mf ∧ (0 ≤ z.toInt) ∧ (z.toInt ≤ 0) ∧ (tr ≤ 0) ∧ sh_I (dC, dI) vcl cI cJ (gsM a th tr dp zi co sh lt ts mf) t.heap) ∨ (∃ (z : Int32), v = some (.int z) ∧ okM th tr dp zi co sh lt ts mf ∧ (1 ≤ z.toInt) ∧ (z.toInt ≤ 1) ∧ (tr ≤ 0) ∧ sh_I (dC, dI) vcl cI cJ (gsM a th tr dp zi co sh lt ts mf) t.heap))) ∧ (∀ x, o = .threw x → (False))
def rm_Mo_begins : Room := { frames := 4, cells := 0, slots := 0, locals := 91 }
set_option maxHeartbeats 4000000 in
set_option maxRecDepth 100000 in
theorem c_Mo_begins (l : Launch) (hfl : l.flags = pinnedFlags ++ [noTraceFlag]) (dC : Nat → ClassId) (dI : Nat → Nat → Nat) (cI cJ : ClassId) (a : Nat → Nat) (sz : Nat) (th tr dp zi co sh lt ts : Int) (mf : Nat → Int32) (x1 : Int32) (x2 : Int32) (hok : okM th tr dp zi co sh lt ts mf) (hp0 : 1 ≤ x1.toInt) (hp1 : x1.toInt ≤ 511) (hp2 : 0 ≤ x2.toInt) (hp3 : x2.toInt ≤ 23) (hp4 : x1.toInt + x2.toInt ≤ 510) : tz_Met l ⟨"StoryMachineModel", "begins", "(II)Z"⟩ tw_tbl rm_Mo_begins (tzP (dC, dI) vcl cI cJ (gsM a th tr dp zi co sh lt ts mf) a (adM a) [.ref (a 0), .int x1, .int x2] sz) (tq_Q (q_Mo_begins dC dI cI cJ a th tr dp zi co sh lt ts mf x1 x2) (ga (adM a) sz)) 0 0 0 0 (ga (adM a) sz) := by
  refine tz_ofW (cc := prog_13_method_64_code) (maxL := 4) (ret := (some .boolean)) (by decide) (tx_isM mw_1460) ?_
  intro p e s m args below meth c s₁ B hml hv
  obtain ⟨rfl, hsz, hI0, hK, hst0⟩ := hv
  have hx := B.exec
  have hb := B.bytes
  have hr := B.returns
  have hts := atoms_spec (ws := tw_tbl) B.pre
  have hown : s.vm.findClass "StoryMachineModel" = some m.cls := findClass_of_methodNamed B.named
  have hlocks := B.notSynchronized
  subst hsz
  have hst := fun (H : Heap) (locs : List Loc) (hS : va_S (ga (adM a) s.heap.size) s.heap H locs) (U : State) (hU : U.heap = H) (hW : s.WarmedH U.vm) => zS_all adM_map hI0 hst0 hS hU hW
  have hAC : ∀ q ∈ adM a, ga (adM a) s.heap.size q := fun q h => Or.inl h
  have hA0 : ∀ q, s.heap.size ≤ q → ga (adM a) s.heap.size q := fun q h => Or.inr h
  have hI : sI (dC, dI) vcl cI cJ (gsM a th tr dp zi co sh lt ts mf) (ga (adM a) s.heap.size) s.heap s.heap [] := ⟨hI0, va_S.rf⟩
  clear hI0 hst0
  have hl := lv_entry ([.ref (a 0), .int x1, .int x2]) (n := 4) (Nat.le_of_ble_eq_true rfl)
  rw [lg_entry_eq]
  generalize (lg_sl ([.ref (a 0), .int x1, .int x2]) ++ List.replicate (4 - (lg_sl ([.ref (a 0), .int x1, .int x2])).length) Slot.unset).toArray = ls at hl ⊢
  have hl : lv_has ls 4 [(0, .ref (a 0)), (1, .int x1), (2, .int x2)] := hl
  generalize hZ : tz_MQ below (tq_Q (q_Mo_begins dC dI cI cJ a th tr dp zi co sh lt ts mf x1 x2) (ga (adM a) s.heap.size)) ([.ref (a 0), .int x1, .int x2] : List Value).toArray s 0 0 0 0 (ga (adM a) s.heap.size) = Z
  obtain ⟨A, hAe⟩ : ∃ A, A = ga (adM a) s.heap.size := ⟨_, rfl⟩
  rw [← hAe] at hst hAC hA0 hI hZ
  refine sv_start hI (fun H locs hI => ?_)
  obtain ⟨⟨o1, o2⟩, ⟨o3, o4⟩, ⟨o5, o6⟩, ⟨o7, o8⟩, ⟨o9, o10⟩, ⟨o11, o12⟩, ⟨o13, o14⟩, ⟨o15, o16⟩, -⟩ := id hok
  have gx1 := sn_rng x1
  have gx2 := sn_rng x2
  have j63p : ∀ (H : Heap) (locs : List Loc) (ls : Array Slot) (v63p_3 : Int32) (t63p_tr : Int), sI (dC, dI) vcl cI cJ (gsM a th t63p_tr dp zi co sh lt ts mf) A s.heap H locs → okM th t63p_tr dp zi co sh lt ts mf → 0 ≤ v63p_3.toInt → v63p_3.toInt ≤ 255 → 1 ≤ t63p_tr → t63p_tr ≤ 4 → lv_has ls 4 [(0, .ref (a 0)), (1, .int x1), (2, .int x2), (3, .int v63p_3)] → W p l e (headSpec tw_tbl rm_Mo_begins).room s m ([.ref (a 0), .int x1, .int x2] : List Value).toArray below meth c H locs 0 0 Z (F0 m 63 ls []) := by
    intro H locs ls v63p_3 t63p_tr hI hok g63_0 g63_1 g63_2 g63_3 hl
    obtain ⟨⟨o17, o18⟩, ⟨o19, o20⟩, ⟨o21, o22⟩, ⟨o23, o24⟩, ⟨o25, o26⟩, ⟨o27, o28⟩, ⟨o29, o30⟩, ⟨o31, o32⟩, -⟩ := id hok
    refine sn_iconst hx hb d_Mo_begins_63 (by decide) (fun z33 hz33 => ?_)
    refine lv_goto (tgt := 68) hx hb d_Mo_begins_64 (by decide) ?_
    subst hZ
    exact tz_ret (W.zret (v := z33) hx hb hr (sn_bool (by omega) (by omega)).1 (fun t ht hW => ⟨⟨fun v9 hv9 => by cases hv9; exact (Or.inr (Or.inl ⟨z33, t63p_tr, rfl, hok, by omega, by omega, by omega, by rw [ht]; exact hI.1⟩)), fun x9 hx9 => (by cases hx9)⟩, hI.2.F ht⟩) hI.2.2.2 d_Mo_begins_68)
  have j63z : ∀ (H : Heap) (locs : List Loc) (ls : Array Slot) (v63z_3 : Int32), sI (dC, dI) vcl cI cJ (gsM a th tr dp zi co sh lt ts mf) A s.heap H locs → okM th tr dp zi co sh lt ts mf → 0 ≤ v63z_3.toInt → v63z_3.toInt ≤ 255 → tr ≤ 0 → lv_has ls 4 [(0, .ref (a 0)), (1, .int x1), (2, .int x2), (3, .int v63z_3)] → W p l e (headSpec tw_tbl rm_Mo_begins).room s m ([.ref (a 0), .int x1, .int x2] : List Value).toArray below meth c H locs 0 0 Z (F0 m 63 ls []) := by
    intro H locs ls v63z_3 hI hok g63_0 g63_1 g63_2 hl
    obtain ⟨⟨o34, o35⟩, ⟨o36, o37⟩, ⟨o38, o39⟩, ⟨o40, o41⟩, ⟨o42, o43⟩, ⟨o44, o45⟩, ⟨o46, o47⟩, ⟨o48, o49⟩, -⟩ := id hok
    refine sn_iconst hx hb d_Mo_begins_63 (by decide) (fun z50 hz50 => ?_)
    refine lv_goto (tgt := 68) hx hb d_Mo_begins_64 (by decide) ?_
    subst hZ
    exact tz_ret (W.zret (v := z50) hx hb hr (sn_bool (by omega) (by omega)).1 (fun t ht hW => ⟨⟨fun v9 hv9 => by cases hv9; exact (Or.inr (Or.inr (Or.inr (⟨z50, rfl, hok, by omega, by omega, by omega, by rw [ht]; exact hI.1⟩)))), fun x9 hx9 => (by cases hx9)⟩, hI.2.F ht⟩) hI.2.2.2 d_Mo_begins_68)
  refine lv_aload_n hx hb d_Mo_begins_0 rfl (lv_at hl 0 rfl) ?_
  refine sv_getr (C := "StoryMachineModel") (T := T_Mo) (N := 51) hx hb hts in_Mo hown hK hI 0 kM_0 rfl 1 (by decide) (hts _ mw_1064) rfl d_Mo_begins_1 ?_
  refine lv_iload_n hx hb d_Mo_begins_4 rfl (lv_at hl 1 rfl) ?_
  refine lv_iload_n hx hb d_Mo_begins_5 rfl (lv_at hl 2 rfl) ?_
  refine sn_iadd hx hb d_Mo_begins_6 (by omega) (by omega) (fun z51 hz51 => ?_)
  refine sv_ialde hx hb hK hI 1 kM_1 (by omega) (by omega) d_Mo_begins_7 (fun z52 hz52 => ?_)
  have hz52r := hok.2.2.2.2.2.2.2.2 (z51.toNatClampNeg)
  rw [← hz52] at hz52r
  have hz52x : z52.toInt = (mf z51.toInt.toNat).toInt := by rw [hz52]; rfl
  refine lv_istore_n (lv' := [(3, .int z52), (0, .ref (a 0)), (1, .int x1), (2, .int x2)]) hx hb d_Mo_begins_8 rfl hl (by decide) rfl (fun ls hl => ?_)
  refine lv_aload_n hx hb d_Mo_begins_9 rfl (lv_at hl 1 rfl) ?_
  refine lv_iload_n hx hb d_Mo_begins_10 rfl (lv_at hl 0 rfl) ?_
  refine tz_call (A1 := ga (adM a) H.size) (tz_runV (C := "StoryMachineModel") (As := [.int z52]) (rest := []) ⟨hx, hb, hml, hown, hts⟩ (c_Mo_separates l hfl dC dI cI cJ a H.size th tr dp zi co sh lt ts mf z52 hok) (tx_cb (n := 1) hts rfl rfl ⟨Nat.le_of_ble_eq_true rfl, Nat.le_of_ble_eq_true rfl⟩ (tx_code.of (hts _ mw_1464)) (hts _ mw_12) (by decide +kernel) (hts _ mw_1461)) (hts _ mw_1463) (hts _ ms_Mo_separates) ⟨tz_blind, sv_recv (q0 := 0) hts in_Mo hK hI kM_0 rfl, fun U hU hW => ⟨rfl, by rw [hU], by rw [hU]; exact hI.1, va_K.moved hW.alike hK, hst _ _ hI.2 U hU hW⟩⟩ rfl rfl hl.1 rfl (lv_room (Nat.le_of_ble_eq_true rfl)) d_Mo_begins_11 ⟨Nat.le_of_ble_eq_true rfl, Nat.le_of_ble_eq_true rfl⟩) hI.2 (fun q _ h => ga_sub hAC hA0 hI.2 q h) (ga_sub hAC hA0 hI.2) (fun v t H1 locs1 ht hWt hpost _ _ hS => ?_) (fun x t H1 locs1 ht hWt hpost _ _ hS => (hpost.2 x rfl).elim)
  rcases hpost.1 _ rfl with ⟨z53, t_tr54, hv, c55, c55_0, c55_1, c55_2, hI1⟩ | ⟨z56, hv, c57, c57_0, c57_1, c57_2, hI1⟩
  · cases hv
    have hI : sI (dC, dI) vcl cI cJ (gsM a th t_tr54 dp zi co sh lt ts mf) A s.heap H1 locs1 := ⟨by rw [← ht]; exact hI1, hS⟩
    obtain ⟨-, ⟨o58, o59⟩, -, -, -, -, -, -, -⟩ := id c55
    clear hpost hI1 hS ht hWt
    revert hI; generalize H1 = H; generalize locs1 = locs; intro hI
    refine sn_if_eq (tgt := 19) hx hb d_Mo_begins_14 (by decide) (fun b60 => ?_) (fun b60 => ?_)
    · refine lv_iload_n hx hb d_Mo_begins_19 rfl (lv_at hl 0 rfl) ?_
      refine sn_bipush hx hb d_Mo_begins_20 (by decide) (fun z61 hz61 => ?_)
      refine sn_icmp_ne (tgt := 27) hx hb d_Mo_begins_22 (by decide) (fun b62 => ?_) (fun b62 => ?_)
      · refine lv_iload_n hx hb d_Mo_begins_27 rfl (lv_at hl 3 rfl) ?_
        refine sn_if_eq (tgt := 63) hx hb d_Mo_begins_28 (by decide) (fun b63 => ?_) (fun b63 => ?_)
        · exact j63p _ _ _ z52 t_tr54 hI c55 (by omega) (by omega) (by omega) (by omega) (lv_sub hl [1, 2, 3, 0] rfl)
        · refine lv_aload_n hx hb d_Mo_begins_31 rfl (lv_at hl 1 rfl) ?_
          refine sv_getr (C := "StoryMachineModel") (T := T_Mo) (N := 51) hx hb hts in_Mo hown hK hI 0 kM_0 rfl 1 (by decide) (hts _ mw_1064) rfl d_Mo_begins_32 ?_
          refine lv_iload_n hx hb d_Mo_begins_35 rfl (lv_at hl 2 rfl) ?_
          refine lv_iload_n hx hb d_Mo_begins_36 rfl (lv_at hl 3 rfl) ?_
          refine sn_iadd hx hb d_Mo_begins_37 (by omega) (by omega) (fun z64 hz64 => ?_)
          refine sn_iconst hx hb d_Mo_begins_38 (by decide) (fun z65 hz65 => ?_)
          refine sn_isub hx hb d_Mo_begins_39 (by omega) (by omega) (fun z66 hz66 => ?_)
          refine sv_ialde hx hb hK hI 1 kM_1 (by omega) (by omega) d_Mo_begins_40 (fun z67 hz67 => ?_)
          have hz67r := c55.2.2.2.2.2.2.2.2 (z66.toNatClampNeg)
          rw [← hz67] at hz67r
          have hz67x : z67.toInt = (mf z66.toInt.toNat).toInt := by rw [hz67]; rfl
          refine sn_bipush hx hb d_Mo_begins_41 (by decide) (fun z68 hz68 => ?_)
          refine sn_icmp_eq (tgt := 63) hx hb d_Mo_begins_43 (by decide) (fun b69 => ?_) (fun b69 => ?_)
          · exact j63p _ _ _ z52 t_tr54 hI c55 (by omega) (by omega) (by omega) (by omega) (lv_sub hl [1, 2, 3, 0] rfl)
          · refine lv_aload_n hx hb d_Mo_begins_46 rfl (lv_at hl 1 rfl) ?_
            refine lv_aload_n hx hb d_Mo_begins_47 rfl (lv_at hl 1 rfl) ?_
            refine sv_getr (C := "StoryMachineModel") (T := T_Mo) (N := 51) hx hb hts in_Mo hown hK hI 0 kM_0 rfl 1 (by decide) (hts _ mw_1064) rfl d_Mo_begins_48 ?_
            refine lv_iload_n hx hb d_Mo_begins_51 rfl (lv_at hl 2 rfl) ?_
            refine lv_iload_n hx hb d_Mo_begins_52 rfl (lv_at hl 3 rfl) ?_
            refine sn_iadd hx hb d_Mo_begins_53 (by omega) (by omega) (fun z70 hz70 => ?_)
            refine sn_iconst hx hb d_Mo_begins_54 (by decide) (fun z71 hz71 => ?_)
            refine sn_isub hx hb d_Mo_begins_55 (by omega) (by omega) (fun z72 hz72 => ?_)
            refine sv_ialde hx hb hK hI 1 kM_1 (by omega) (by omega) d_Mo_begins_56 (fun z73 hz73 => ?_)
            have hz73r := c55.2.2.2.2.2.2.2.2 (z72.toNatClampNeg)
            rw [← hz73] at hz73r
            have hz73x : z73.toInt = (mf z72.toInt.toNat).toInt := by rw [hz73]; rfl
            refine tz_call (A1 := ga (adM a) H.size) (tz_runV (C := "StoryMachineModel") (As := [.int z73]) (rest := []) ⟨hx, hb, hml, hown, hts⟩ (c_Mo_separates l hfl dC dI cI cJ a H.size th t_tr54 dp zi co sh lt ts mf z73 c55) (tx_cb (n := 1) hts rfl rfl ⟨Nat.le_of_ble_eq_true rfl, Nat.le_of_ble_eq_true rfl⟩ (tx_code.of (hts _ mw_1464)) (hts _ mw_12) (by decide +kernel) (hts _ mw_1461)) (hts _ mw_1463) (hts _ ms_Mo_separates) ⟨tz_blind, sv_recv (q0 := 0) hts in_Mo hK hI kM_0 rfl, fun U hU hW => ⟨rfl, by rw [hU], by rw [hU]; exact hI.1, va_K.moved hW.alike hK, hst _ _ hI.2 U hU hW⟩⟩ rfl rfl hl.1 rfl (lv_room (Nat.le_of_ble_eq_true rfl)) d_Mo_begins_57 ⟨Nat.le_of_ble_eq_true rfl, Nat.le_of_ble_eq_true rfl⟩) hI.2 (fun q _ h => ga_sub hAC hA0 hI.2 q h) (ga_sub hAC hA0 hI.2) (fun v t H1 locs1 ht hWt hpost _ _ hS => ?_) (fun x t H1 locs1 ht hWt hpost _ _ hS => (hpost.2 x rfl).elim)
            rcases hpost.1 _ rfl with ⟨z74, t_tr75, hv, c76, c76_0, c76_1, c76_2, hI1⟩ | ⟨z77, hv, c78, c78_0, c78_1, c78_2, hI1⟩
            · cases hv
              have hI : sI (dC, dI) vcl cI cJ (gsM a th t_tr75 dp zi co sh lt ts mf) A s.heap H1 locs1 := ⟨by rw [← ht]; exact hI1, hS⟩
              obtain ⟨-, ⟨o79, o80⟩, -, -, -, -, -, -, -⟩ := id c76
              clear hpost hI1 hS ht hWt
              revert hI; generalize H1 = H; generalize locs1 = locs; intro hI
              refine sn_if_eq (tgt := 67) hx hb d_Mo_begins_60 (by decide) (fun b81 => ?_) (fun b81 => ?_)
              · refine sn_iconst hx hb d_Mo_begins_67 (by decide) (fun z82 hz82 => ?_)
                subst hZ
                exact tz_ret (W.zret (v := z82) hx hb hr (sn_bool (by omega) (by omega)).1 (fun t ht hW => ⟨⟨fun v9 hv9 => by cases hv9; exact (Or.inl ⟨z82, t_tr75, rfl, c76, by omega, by omega, by omega, by rw [ht]; exact hI.1⟩), fun x9 hx9 => (by cases hx9)⟩, hI.2.F ht⟩) hI.2.2.2 d_Mo_begins_68)
              · exact j63p _ _ _ z52 t_tr75 hI c76 (by omega) (by omega) (by omega) (by omega) (lv_sub hl [1, 2, 3, 0] rfl)
            · omega
      · refine sn_iconst hx hb d_Mo_begins_25 (by decide) (fun z83 hz83 => ?_)
        subst hZ
        exact tz_ret (W.zret (v := z83) hx hb hr (sn_bool (by omega) (by omega)).1 (fun t ht hW => ⟨⟨fun v9 hv9 => by cases hv9; exact (Or.inl ⟨z83, t_tr54, rfl, c55, by omega, by omega, by omega, by rw [ht]; exact hI.1⟩), fun x9 hx9 => (by cases hx9)⟩, hI.2.F ht⟩) hI.2.2.2 d_Mo_begins_26)
    · refine sn_iconst hx hb d_Mo_begins_17 (by decide) (fun z84 hz84 => ?_)
      subst hZ
      exact tz_ret (W.zret (v := z84) hx hb hr (sn_bool (by omega) (by omega)).1 (fun t ht hW => ⟨⟨fun v9 hv9 => by cases hv9; exact (Or.inr (Or.inl ⟨z84, t_tr54, rfl, c55, by omega, by omega, by omega, by rw [ht]; exact hI.1⟩)), fun x9 hx9 => (by cases hx9)⟩, hI.2.F ht⟩) hI.2.2.2 d_Mo_begins_18)
  · cases hv
    have hI : sI (dC, dI) vcl cI cJ (gsM a th tr dp zi co sh lt ts mf) A s.heap H1 locs1 := ⟨by rw [← ht]; exact hI1, hS⟩
    clear hpost hI1 hS ht hWt
    revert hI; generalize H1 = H; generalize locs1 = locs; intro hI
    refine sn_if_eq (tgt := 19) hx hb d_Mo_begins_14 (by decide) (fun b85 => ?_) (fun b85 => ?_)
    · refine lv_iload_n hx hb d_Mo_begins_19 rfl (lv_at hl 0 rfl) ?_
      refine sn_bipush hx hb d_Mo_begins_20 (by decide) (fun z86 hz86 => ?_)
      refine sn_icmp_ne (tgt := 27) hx hb d_Mo_begins_22 (by decide) (fun b87 => ?_) (fun b87 => ?_)
      · refine lv_iload_n hx hb d_Mo_begins_27 rfl (lv_at hl 3 rfl) ?_
        refine sn_if_eq (tgt := 63) hx hb d_Mo_begins_28 (by decide) (fun b88 => ?_) (fun b88 => ?_)
        · exact j63z _ _ _ z52 hI c57 (by omega) (by omega) (by omega) (lv_sub hl [1, 2, 3, 0] rfl)
        · refine lv_aload_n hx hb d_Mo_begins_31 rfl (lv_at hl 1 rfl) ?_
          refine sv_getr (C := "StoryMachineModel") (T := T_Mo) (N := 51) hx hb hts in_Mo hown hK hI 0 kM_0 rfl 1 (by decide) (hts _ mw_1064) rfl d_Mo_begins_32 ?_
          refine lv_iload_n hx hb d_Mo_begins_35 rfl (lv_at hl 2 rfl) ?_
          refine lv_iload_n hx hb d_Mo_begins_36 rfl (lv_at hl 3 rfl) ?_
          refine sn_iadd hx hb d_Mo_begins_37 (by omega) (by omega) (fun z89 hz89 => ?_)
          refine sn_iconst hx hb d_Mo_begins_38 (by decide) (fun z90 hz90 => ?_)
          refine sn_isub hx hb d_Mo_begins_39 (by omega) (by omega) (fun z91 hz91 => ?_)
          refine sv_ialde hx hb hK hI 1 kM_1 (by omega) (by omega) d_Mo_begins_40 (fun z92 hz92 => ?_)
          have hz92r := c57.2.2.2.2.2.2.2.2 (z91.toNatClampNeg)
          rw [← hz92] at hz92r
          have hz92x : z92.toInt = (mf z91.toInt.toNat).toInt := by rw [hz92]; rfl
          refine sn_bipush hx hb d_Mo_begins_41 (by decide) (fun z93 hz93 => ?_)
          refine sn_icmp_eq (tgt := 63) hx hb d_Mo_begins_43 (by decide) (fun b94 => ?_) (fun b94 => ?_)
          · exact j63z _ _ _ z52 hI c57 (by omega) (by omega) (by omega) (lv_sub hl [1, 2, 3, 0] rfl)
          · refine lv_aload_n hx hb d_Mo_begins_46 rfl (lv_at hl 1 rfl) ?_
            refine lv_aload_n hx hb d_Mo_begins_47 rfl (lv_at hl 1 rfl) ?_
            refine sv_getr (C := "StoryMachineModel") (T := T_Mo) (N := 51) hx hb hts in_Mo hown hK hI 0 kM_0 rfl 1 (by decide) (hts _ mw_1064) rfl d_Mo_begins_48 ?_
            refine lv_iload_n hx hb d_Mo_begins_51 rfl (lv_at hl 2 rfl) ?_
            refine lv_iload_n hx hb d_Mo_begins_52 rfl (lv_at hl 3 rfl) ?_
            refine sn_iadd hx hb d_Mo_begins_53 (by omega) (by omega) (fun z95 hz95 => ?_)
            refine sn_iconst hx hb d_Mo_begins_54 (by decide) (fun z96 hz96 => ?_)
            refine sn_isub hx hb d_Mo_begins_55 (by omega) (by omega) (fun z97 hz97 => ?_)
            refine sv_ialde hx hb hK hI 1 kM_1 (by omega) (by omega) d_Mo_begins_56 (fun z98 hz98 => ?_)
            have hz98r := c57.2.2.2.2.2.2.2.2 (z97.toNatClampNeg)
            rw [← hz98] at hz98r
            have hz98x : z98.toInt = (mf z97.toInt.toNat).toInt := by rw [hz98]; rfl
            refine tz_call (A1 := ga (adM a) H.size) (tz_runV (C := "StoryMachineModel") (As := [.int z98]) (rest := []) ⟨hx, hb, hml, hown, hts⟩ (c_Mo_separates l hfl dC dI cI cJ a H.size th tr dp zi co sh lt ts mf z98 c57) (tx_cb (n := 1) hts rfl rfl ⟨Nat.le_of_ble_eq_true rfl, Nat.le_of_ble_eq_true rfl⟩ (tx_code.of (hts _ mw_1464)) (hts _ mw_12) (by decide +kernel) (hts _ mw_1461)) (hts _ mw_1463) (hts _ ms_Mo_separates) ⟨tz_blind, sv_recv (q0 := 0) hts in_Mo hK hI kM_0 rfl, fun U hU hW => ⟨rfl, by rw [hU], by rw [hU]; exact hI.1, va_K.moved hW.alike hK, hst _ _ hI.2 U hU hW⟩⟩ rfl rfl hl.1 rfl (lv_room (Nat.le_of_ble_eq_true rfl)) d_Mo_begins_57 ⟨Nat.le_of_ble_eq_true rfl, Nat.le_of_ble_eq_true rfl⟩) hI.2 (fun q _ h => ga_sub hAC hA0 hI.2 q h) (ga_sub hAC hA0 hI.2) (fun v t H1 locs1 ht hWt hpost _ _ hS => ?_) (fun x t H1 locs1 ht hWt hpost _ _ hS => (hpost.2 x rfl).elim)
            rcases hpost.1 _ rfl with ⟨z99, t_tr100, hv, c101, c101_0, c101_1, c101_2, hI1⟩ | ⟨z102, hv, c103, c103_0, c103_1, c103_2, hI1⟩
            · cases hv
              have hI : sI (dC, dI) vcl cI cJ (gsM a th t_tr100 dp zi co sh lt ts mf) A s.heap H1 locs1 := ⟨by rw [← ht]; exact hI1, hS⟩
              obtain ⟨-, ⟨o104, o105⟩, -, -, -, -, -, -, -⟩ := id c101
              clear hpost hI1 hS ht hWt
              revert hI; generalize H1 = H; generalize locs1 = locs; intro hI
              refine sn_if_eq (tgt := 67) hx hb d_Mo_begins_60 (by decide) (fun b106 => ?_) (fun b106 => ?_)
              · refine sn_iconst hx hb d_Mo_begins_67 (by decide) (fun z107 hz107 => ?_)
                subst hZ
                exact tz_ret (W.zret (v := z107) hx hb hr (sn_bool (by omega) (by omega)).1 (fun t ht hW => ⟨⟨fun v9 hv9 => by cases hv9; exact (Or.inl ⟨z107, t_tr100, rfl, c101, by omega, by omega, by omega, by rw [ht]; exact hI.1⟩), fun x9 hx9 => (by cases hx9)⟩, hI.2.F ht⟩) hI.2.2.2 d_Mo_begins_68)
              · exact j63p _ _ _ z52 t_tr100 hI c101 (by omega) (by omega) (by omega) (by omega) (lv_sub hl [1, 2, 3, 0] rfl)
            · cases hv
              have hI : sI (dC, dI) vcl cI cJ (gsM a th tr dp zi co sh lt ts mf) A s.heap H1 locs1 := ⟨by rw [← ht]; exact hI1, hS⟩
              clear hpost hI1 hS ht hWt
              revert hI; generalize H1 = H; generalize locs1 = locs; intro hI
              refine sn_if_eq (tgt := 67) hx hb d_Mo_begins_60 (by decide) (fun b108 => ?_) (fun b108 => ?_)
              · refine sn_iconst hx hb d_Mo_begins_67 (by decide) (fun z109 hz109 => ?_)
                subst hZ
                exact tz_ret (W.zret (v := z109) hx hb hr (sn_bool (by omega) (by omega)).1 (fun t ht hW => ⟨⟨fun v9 hv9 => by cases hv9; exact (Or.inr (Or.inr (Or.inl ⟨z109, rfl, c103, by omega, by omega, by omega, by rw [ht]; exact hI.1⟩))), fun x9 hx9 => (by cases hx9)⟩, hI.2.F ht⟩) hI.2.2.2 d_Mo_begins_68)
              · exact j63z _ _ _ z52 hI c103 (by omega) (by omega) (by omega) (lv_sub hl [1, 2, 3, 0] rfl)
      · refine sn_iconst hx hb d_Mo_begins_25 (by decide) (fun z110 hz110 => ?_)
        subst hZ
        exact tz_ret (W.zret (v := z110) hx hb hr (sn_bool (by omega) (by omega)).1 (fun t ht hW => ⟨⟨fun v9 hv9 => by cases hv9; exact (Or.inr (Or.inr (Or.inl ⟨z110, rfl, c57, by omega, by omega, by omega, by rw [ht]; exact hI.1⟩))), fun x9 hx9 => (by cases hx9)⟩, hI.2.F ht⟩) hI.2.2.2 d_Mo_begins_26)
    · refine sn_iconst hx hb d_Mo_begins_17 (by decide) (fun z111 hz111 => ?_)
      subst hZ
      exact tz_ret (W.zret (v := z111) hx hb hr (sn_bool (by omega) (by omega)).1 (fun t ht hW => ⟨⟨fun v9 hv9 => by cases hv9; exact (Or.inr (Or.inr (Or.inr (⟨z111, rfl, c57, by omega, by omega, by omega, by rw [ht]; exact hI.1⟩)))), fun x9 hx9 => (by cases hx9)⟩, hI.2.F ht⟩) hI.2.2.2 d_Mo_begins_18)
