abbrev q_Mo_lengthFrom (dC : Nat → ClassId) (dI : Nat → Nat → Nat) (cI cJ : ClassId) (a : Nat → Nat) (th tr dp zi co sh lt ts : Int) (mf : Nat → Int32) (x1 : Int32) (x2 : Int32) (x3 : Int32) : Outcome → State → Prop := fun o t => (∀ v, o = .returned v → ((∃ (z : Int32) (tr_ : Int), v = some (.int z) ∧ okM th tr_ dp zi co sh lt ts mf ∧ ((-23) ≤ z.toInt) ∧ (z.toInt ≤ 24) ∧ (1 ≤ tr_) ∧ sh_I (dC, dI) vcl cI cJ (gsM a th tr_ dp zi co sh lt ts mf) t.heap) ∨ (∃ (z : Int32), v = some (.int z) ∧ okM th tr dp zi co sh lt ts mf ∧ ((-23) ≤ z.toInt) ∧ (z.toInt ≤ 24) ∧ (tr ≤ 0) ∧ sh_I (dC, dI) vcl cI cJ (gsM a th tr dp zi co sh lt ts mf) t.heap))) ∧ (∀ x, o = .threw x → (False))
def rm_Mo_lengthFrom : Room := { frames := 4, cells := 0, slots := 0, locals := 91 }
set_option maxHeartbeats 4000000 in
set_option maxRecDepth 100000 in
theorem c_Mo_lengthFrom (l : Launch) (hfl : l.flags = pinnedFlags ++ [noTraceFlag]) (dC : Nat → ClassId) (dI : Nat → Nat → Nat) (cI cJ : ClassId) (a : Nat → Nat) (sz : Nat) (th tr dp zi co sh lt ts : Int) (mf : Nat → Int32) (x1 : Int32) (x2 : Int32) (x3 : Int32) (hok : okM th tr dp zi co sh lt ts mf) (hp0 : 1 ≤ x1.toInt) (hp1 : x1.toInt ≤ 511) (hp2 : 0 ≤ x2.toInt) (hp3 : x2.toInt ≤ 24) (hp4 : 0 ≤ x3.toInt) (hp5 : x3.toInt ≤ 23) (hp6 : x1.toInt + x2.toInt ≤ 511) (hp7 : x3.toInt < x2.toInt) : tz_Met l ⟨"StoryMachineModel", "lengthFrom", "(III)I"⟩ tw_tbl rm_Mo_lengthFrom (tzP (dC, dI) vcl cI cJ (gsM a th tr dp zi co sh lt ts mf) a (adM a) [.ref (a 0), .int x1, .int x2, .int x3] sz) (tq_Q (q_Mo_lengthFrom dC dI cI cJ a th tr dp zi co sh lt ts mf x1 x2 x3) (ga (adM a) sz)) 0 0 0 0 (ga (adM a) sz) := by
  refine tz_ofW (cc := prog_13_method_65_code) (maxL := 5) (ret := (some .int)) (by decide) (tx_isM mw_1468) ?_
  intro p e s m args below meth c s₁ B hml hv
  obtain ⟨rfl, hsz, hI0, hK, hst0⟩ := hv
  have hx := B.exec
  have hb := B.bytes
  have hr := B.returns
  have hts := atoms_spec (ws := tw_tbl) B.pre
  have hown : s.vm.findClass "StoryMachineModel" = some m.cls := findClass_of_methodNamed B.named
  have hlocks := B.notSynchronized
  subst hsz
  have hst := fun (H : Heap) (locs : List Loc) (hS : va_S (ga (adM a) s.heap.size) s.heap H locs) (U : State) (hU : U.heap = H) (hW : s.WarmedH U.vm) => zS_all adM_map hI0 hst0 hS hU hW
  have hAC : ∀ q ∈ adM a, ga (adM a) s.heap.size q := fun q h => Or.inl h
  have hA0 : ∀ q, s.heap.size ≤ q → ga (adM a) s.heap.size q := fun q h => Or.inr h
  have hI : sI (dC, dI) vcl cI cJ (gsM a th tr dp zi co sh lt ts mf) (ga (adM a) s.heap.size) s.heap s.heap [] := ⟨hI0, va_S.rf⟩
  clear hI0 hst0
  have hl := lv_entry ([.ref (a 0), .int x1, .int x2, .int x3]) (n := 5) (Nat.le_of_ble_eq_true rfl)
  rw [lg_entry_eq]
  generalize (lg_sl ([.ref (a 0), .int x1, .int x2, .int x3]) ++ List.replicate (5 - (lg_sl ([.ref (a 0), .int x1, .int x2, .int x3])).length) Slot.unset).toArray = ls at hl ⊢
  have hl : lv_has ls 5 [(0, .ref (a 0)), (1, .int x1), (2, .int x2), (3, .int x3)] := hl
  generalize hZ : tz_MQ below (tq_Q (q_Mo_lengthFrom dC dI cI cJ a th tr dp zi co sh lt ts mf x1 x2 x3) (ga (adM a) s.heap.size)) ([.ref (a 0), .int x1, .int x2, .int x3] : List Value).toArray s 0 0 0 0 (ga (adM a) s.heap.size) = Z
  obtain ⟨A, hAe⟩ : ∃ A, A = ga (adM a) s.heap.size := ⟨_, rfl⟩
  rw [← hAe] at hst hAC hA0 hI hZ
  refine sv_start hI (fun H locs hI => ?_)
  obtain ⟨⟨o1, o2⟩, ⟨o3, o4⟩, ⟨o5, o6⟩, ⟨o7, o8⟩, ⟨o9, o10⟩, ⟨o11, o12⟩, ⟨o13, o14⟩, ⟨o15, o16⟩, -⟩ := id hok
  have gx1 := sn_rng x1
  have gx2 := sn_rng x2
  have gx3 := sn_rng x3
  have j20p : ∀ (n : Nat) (H : Heap) (locs : List Loc) (ls : Array Slot) (v20p_4 : Int32) (t20p_tr : Int), sI (dC, dI) vcl cI cJ (gsM a th t20p_tr dp zi co sh lt ts mf) A s.heap H locs → okM th t20p_tr dp zi co sh lt ts mf → 0 ≤ v20p_4.toInt → v20p_4.toInt ≤ 24 → 1 ≤ t20p_tr → t20p_tr ≤ 4 → lv_has ls 5 [(0, .ref (a 0)), (1, .int x1), (2, .int x2), (3, .int x3), (4, .int v20p_4)] → 24 - v20p_4.toInt < (n : Int) → W p l e (headSpec tw_tbl rm_Mo_lengthFrom).room s m ([.ref (a 0), .int x1, .int x2, .int x3] : List Value).toArray below meth c H locs 0 0 Z (F0 m 20 ls []) := by
    intro n
    induction n with
    | zero => intro H locs ls v20p_4 t20p_tr hI hok g20_0 g20_1 g20_2 g20_3 hl hme; exfalso; obtain ⟨⟨o17, o18⟩, ⟨o19, o20⟩, ⟨o21, o22⟩, ⟨o23, o24⟩, ⟨o25, o26⟩, ⟨o27, o28⟩, ⟨o29, o30⟩, ⟨o31, o32⟩, -⟩ := id hok; omega
    | succ n ih =>
      intro H locs ls v20p_4 t20p_tr hI hok g20_0 g20_1 g20_2 g20_3 hl hme
      obtain ⟨⟨o33, o34⟩, ⟨o35, o36⟩, ⟨o37, o38⟩, ⟨o39, o40⟩, ⟨o41, o42⟩, ⟨o43, o44⟩, ⟨o45, o46⟩, ⟨o47, o48⟩, -⟩ := id hok
      refine lv_iload hx hb d_Mo_lengthFrom_20 (lv_at hl 4 rfl) ?_
      refine lv_iload_n hx hb d_Mo_lengthFrom_22 rfl (lv_at hl 2 rfl) ?_
      refine sn_icmp_ge (tgt := 62) hx hb d_Mo_lengthFrom_23 (by decide) (fun b49 => ?_) (fun b49 => ?_)
      · refine lv_iload hx hb d_Mo_lengthFrom_62 (lv_at hl 4 rfl) ?_
        refine lv_iload_n hx hb d_Mo_lengthFrom_64 rfl (lv_at hl 3 rfl) ?_
        refine sn_isub hx hb d_Mo_lengthFrom_65 (by omega) (by omega) (fun z50 hz50 => ?_)
        subst hZ
        exact tz_ret (W.iret (v := z50) hx hb hr (fun t ht hW => ⟨⟨fun v9 hv9 => by cases hv9; exact (Or.inl ⟨z50, t20p_tr, rfl, hok, by omega, by omega, by omega, by rw [ht]; exact hI.1⟩), fun x9 hx9 => (by cases hx9)⟩, hI.2.F ht⟩) hI.2.2.2 d_Mo_lengthFrom_66)
      · refine lv_aload_n hx hb d_Mo_lengthFrom_26 rfl (lv_at hl 0 rfl) ?_
        refine sv_getr (C := "StoryMachineModel") (T := T_Mo) (N := 51) hx hb hts in_Mo hown hK hI 0 kM_0 rfl 1 (by decide) (hts _ mw_1064) rfl d_Mo_lengthFrom_27 ?_
        refine lv_iload_n hx hb d_Mo_lengthFrom_30 rfl (lv_at hl 1 rfl) ?_
        refine lv_iload hx hb d_Mo_lengthFrom_31 (lv_at hl 4 rfl) ?_
        refine sn_iadd hx hb d_Mo_lengthFrom_33 (by omega) (by omega) (fun z51 hz51 => ?_)
        refine sv_ialde hx hb hK hI 1 kM_1 (by omega) (by omega) d_Mo_lengthFrom_34 (fun z52 hz52 => ?_)
        have hz52r := hok.2.2.2.2.2.2.2.2 (z51.toNatClampNeg)
        rw [← hz52] at hz52r
        have hz52x : z52.toInt = (mf z51.toInt.toNat).toInt := by rw [hz52]; rfl
        refine sn_bipush hx hb d_Mo_lengthFrom_35 (by decide) (fun z53 hz53 => ?_)
        refine sn_icmp_eq (tgt := 62) hx hb d_Mo_lengthFrom_37 (by decide) (fun b54 => ?_) (fun b54 => ?_)
        · refine lv_iload hx hb d_Mo_lengthFrom_62 (lv_at hl 4 rfl) ?_
          refine lv_iload_n hx hb d_Mo_lengthFrom_64 rfl (lv_at hl 3 rfl) ?_
          refine sn_isub hx hb d_Mo_lengthFrom_65 (by omega) (by omega) (fun z55 hz55 => ?_)
          subst hZ
          exact tz_ret (W.iret (v := z55) hx hb hr (fun t ht hW => ⟨⟨fun v9 hv9 => by cases hv9; exact (Or.inl ⟨z55, t20p_tr, rfl, hok, by omega, by omega, by omega, by rw [ht]; exact hI.1⟩), fun x9 hx9 => (by cases hx9)⟩, hI.2.F ht⟩) hI.2.2.2 d_Mo_lengthFrom_66)
        · refine lv_aload_n hx hb d_Mo_lengthFrom_40 rfl (lv_at hl 0 rfl) ?_
          refine lv_aload_n hx hb d_Mo_lengthFrom_41 rfl (lv_at hl 0 rfl) ?_
          refine sv_getr (C := "StoryMachineModel") (T := T_Mo) (N := 51) hx hb hts in_Mo hown hK hI 0 kM_0 rfl 1 (by decide) (hts _ mw_1064) rfl d_Mo_lengthFrom_42 ?_
          refine lv_iload_n hx hb d_Mo_lengthFrom_45 rfl (lv_at hl 1 rfl) ?_
          refine lv_iload hx hb d_Mo_lengthFrom_46 (lv_at hl 4 rfl) ?_
          refine sn_iadd hx hb d_Mo_lengthFrom_48 (by omega) (by omega) (fun z56 hz56 => ?_)
          refine sv_ialde hx hb hK hI 1 kM_1 (by omega) (by omega) d_Mo_lengthFrom_49 (fun z57 hz57 => ?_)
          have hz57r := hok.2.2.2.2.2.2.2.2 (z56.toNatClampNeg)
          rw [← hz57] at hz57r
          have hz57x : z57.toInt = (mf z56.toInt.toNat).toInt := by rw [hz57]; rfl
          refine tz_call (A1 := ga (adM a) H.size) (tz_runV (C := "StoryMachineModel") (As := [.int z57]) (rest := []) ⟨hx, hb, hml, hown, hts⟩ (c_Mo_separates l hfl dC dI cI cJ a H.size th t20p_tr dp zi co sh lt ts mf z57 hok) (tx_cb (n := 1) hts rfl rfl ⟨Nat.le_of_ble_eq_true rfl, Nat.le_of_ble_eq_true rfl⟩ (tx_code.of (hts _ mw_1464)) (hts _ mw_12) (by decide +kernel) (hts _ mw_1461)) (hts _ mw_1463) (hts _ ms_Mo_separates) ⟨tz_blind, sv_recv (q0 := 0) hts in_Mo hK hI kM_0 rfl, fun U hU hW => ⟨rfl, by rw [hU], by rw [hU]; exact hI.1, va_K.moved hW.alike hK, hst _ _ hI.2 U hU hW⟩⟩ rfl rfl hl.1 rfl (lv_room (Nat.le_of_ble_eq_true rfl)) d_Mo_lengthFrom_50 ⟨Nat.le_of_ble_eq_true rfl, Nat.le_of_ble_eq_true rfl⟩) hI.2 (fun q _ h => ga_sub hAC hA0 hI.2 q h) (ga_sub hAC hA0 hI.2) (fun v t H1 locs1 ht hWt hpost _ _ hS => ?_) (fun x t H1 locs1 ht hWt hpost _ _ hS => (hpost.2 x rfl).elim)
          rcases hpost.1 _ rfl with ⟨z58, t_tr59, hv, c60, c60_0, c60_1, c60_2, hI1⟩ | ⟨z61, hv, c62, c62_0, c62_1, c62_2, hI1⟩
          · cases hv
            have hI : sI (dC, dI) vcl cI cJ (gsM a th t_tr59 dp zi co sh lt ts mf) A s.heap H1 locs1 := ⟨by rw [← ht]; exact hI1, hS⟩
            obtain ⟨-, ⟨o63, o64⟩, -, -, -, -, -, -, -⟩ := id c60
            clear hpost hI1 hS ht hWt
            revert hI; generalize H1 = H; generalize locs1 = locs; intro hI
            refine sn_if_ne (tgt := 62) hx hb d_Mo_lengthFrom_53 (by decide) (fun b65 => ?_) (fun b65 => ?_)
            · refine lv_iload hx hb d_Mo_lengthFrom_62 (lv_at hl 4 rfl) ?_
              refine lv_iload_n hx hb d_Mo_lengthFrom_64 rfl (lv_at hl 3 rfl) ?_
              refine sn_isub hx hb d_Mo_lengthFrom_65 (by omega) (by omega) (fun z66 hz66 => ?_)
              subst hZ
              exact tz_ret (W.iret (v := z66) hx hb hr (fun t ht hW => ⟨⟨fun v9 hv9 => by cases hv9; exact (Or.inl ⟨z66, t_tr59, rfl, c60, by omega, by omega, by omega, by rw [ht]; exact hI.1⟩), fun x9 hx9 => (by cases hx9)⟩, hI.2.F ht⟩) hI.2.2.2 d_Mo_lengthFrom_66)
            · refine sn_iinc (k := 4) hx hb d_Mo_lengthFrom_56 hl rfl (by decide) (by decide) (by omega) (by omega) (fun ls z67 hz67 hl => ?_)
              have hl : lv_has ls 5 [(4, .int z67), (0, .ref (a 0)), (1, .int x1), (2, .int x2), (3, .int x3)] := hl
              refine lv_goto (tgt := 20) hx hb d_Mo_lengthFrom_59 (by decide) ?_
              exact ih _ _ _ z67 t_tr59 hI c60 (by omega) (by omega) (by omega) (by omega) (lv_sub hl [1, 2, 3, 4, 0] rfl) (by omega)
          · omega
  have j20z : ∀ (n : Nat) (H : Heap) (locs : List Loc) (ls : Array Slot) (v20z_4 : Int32), sI (dC, dI) vcl cI cJ (gsM a th tr dp zi co sh lt ts mf) A s.heap H locs → okM th tr dp zi co sh lt ts mf → 0 ≤ v20z_4.toInt → v20z_4.toInt ≤ 24 → tr ≤ 0 → lv_has ls 5 [(0, .ref (a 0)), (1, .int x1), (2, .int x2), (3, .int x3), (4, .int v20z_4)] → 24 - v20z_4.toInt < (n : Int) → W p l e (headSpec tw_tbl rm_Mo_lengthFrom).room s m ([.ref (a 0), .int x1, .int x2, .int x3] : List Value).toArray below meth c H locs 0 0 Z (F0 m 20 ls []) := by
    intro n
    induction n with
    | zero => intro H locs ls v20z_4 hI hok g20_0 g20_1 g20_2 hl hme; exfalso; obtain ⟨⟨o68, o69⟩, ⟨o70, o71⟩, ⟨o72, o73⟩, ⟨o74, o75⟩, ⟨o76, o77⟩, ⟨o78, o79⟩, ⟨o80, o81⟩, ⟨o82, o83⟩, -⟩ := id hok; omega
    | succ n ih =>
      intro H locs ls v20z_4 hI hok g20_0 g20_1 g20_2 hl hme
      obtain ⟨⟨o84, o85⟩, ⟨o86, o87⟩, ⟨o88, o89⟩, ⟨o90, o91⟩, ⟨o92, o93⟩, ⟨o94, o95⟩, ⟨o96, o97⟩, ⟨o98, o99⟩, -⟩ := id hok
      refine lv_iload hx hb d_Mo_lengthFrom_20 (lv_at hl 4 rfl) ?_
      refine lv_iload_n hx hb d_Mo_lengthFrom_22 rfl (lv_at hl 2 rfl) ?_
      refine sn_icmp_ge (tgt := 62) hx hb d_Mo_lengthFrom_23 (by decide) (fun b100 => ?_) (fun b100 => ?_)
      · refine lv_iload hx hb d_Mo_lengthFrom_62 (lv_at hl 4 rfl) ?_
        refine lv_iload_n hx hb d_Mo_lengthFrom_64 rfl (lv_at hl 3 rfl) ?_
        refine sn_isub hx hb d_Mo_lengthFrom_65 (by omega) (by omega) (fun z101 hz101 => ?_)
        subst hZ
        exact tz_ret (W.iret (v := z101) hx hb hr (fun t ht hW => ⟨⟨fun v9 hv9 => by cases hv9; exact (Or.inr (⟨z101, rfl, hok, by omega, by omega, by omega, by rw [ht]; exact hI.1⟩)), fun x9 hx9 => (by cases hx9)⟩, hI.2.F ht⟩) hI.2.2.2 d_Mo_lengthFrom_66)
      · refine lv_aload_n hx hb d_Mo_lengthFrom_26 rfl (lv_at hl 0 rfl) ?_
        refine sv_getr (C := "StoryMachineModel") (T := T_Mo) (N := 51) hx hb hts in_Mo hown hK hI 0 kM_0 rfl 1 (by decide) (hts _ mw_1064) rfl d_Mo_lengthFrom_27 ?_
        refine lv_iload_n hx hb d_Mo_lengthFrom_30 rfl (lv_at hl 1 rfl) ?_
        refine lv_iload hx hb d_Mo_lengthFrom_31 (lv_at hl 4 rfl) ?_
        refine sn_iadd hx hb d_Mo_lengthFrom_33 (by omega) (by omega) (fun z102 hz102 => ?_)
        refine sv_ialde hx hb hK hI 1 kM_1 (by omega) (by omega) d_Mo_lengthFrom_34 (fun z103 hz103 => ?_)
        have hz103r := hok.2.2.2.2.2.2.2.2 (z102.toNatClampNeg)
        rw [← hz103] at hz103r
        have hz103x : z103.toInt = (mf z102.toInt.toNat).toInt := by rw [hz103]; rfl
        refine sn_bipush hx hb d_Mo_lengthFrom_35 (by decide) (fun z104 hz104 => ?_)
        refine sn_icmp_eq (tgt := 62) hx hb d_Mo_lengthFrom_37 (by decide) (fun b105 => ?_) (fun b105 => ?_)
        · refine lv_iload hx hb d_Mo_lengthFrom_62 (lv_at hl 4 rfl) ?_
          refine lv_iload_n hx hb d_Mo_lengthFrom_64 rfl (lv_at hl 3 rfl) ?_
          refine sn_isub hx hb d_Mo_lengthFrom_65 (by omega) (by omega) (fun z106 hz106 => ?_)
          subst hZ
          exact tz_ret (W.iret (v := z106) hx hb hr (fun t ht hW => ⟨⟨fun v9 hv9 => by cases hv9; exact (Or.inr (⟨z106, rfl, hok, by omega, by omega, by omega, by rw [ht]; exact hI.1⟩)), fun x9 hx9 => (by cases hx9)⟩, hI.2.F ht⟩) hI.2.2.2 d_Mo_lengthFrom_66)
        · refine lv_aload_n hx hb d_Mo_lengthFrom_40 rfl (lv_at hl 0 rfl) ?_
          refine lv_aload_n hx hb d_Mo_lengthFrom_41 rfl (lv_at hl 0 rfl) ?_
          refine sv_getr (C := "StoryMachineModel") (T := T_Mo) (N := 51) hx hb hts in_Mo hown hK hI 0 kM_0 rfl 1 (by decide) (hts _ mw_1064) rfl d_Mo_lengthFrom_42 ?_
          refine lv_iload_n hx hb d_Mo_lengthFrom_45 rfl (lv_at hl 1 rfl) ?_
          refine lv_iload hx hb d_Mo_lengthFrom_46 (lv_at hl 4 rfl) ?_
          refine sn_iadd hx hb d_Mo_lengthFrom_48 (by omega) (by omega) (fun z107 hz107 => ?_)
          refine sv_ialde hx hb hK hI 1 kM_1 (by omega) (by omega) d_Mo_lengthFrom_49 (fun z108 hz108 => ?_)
          have hz108r := hok.2.2.2.2.2.2.2.2 (z107.toNatClampNeg)
          rw [← hz108] at hz108r
          have hz108x : z108.toInt = (mf z107.toInt.toNat).toInt := by rw [hz108]; rfl
          refine tz_call (A1 := ga (adM a) H.size) (tz_runV (C := "StoryMachineModel") (As := [.int z108]) (rest := []) ⟨hx, hb, hml, hown, hts⟩ (c_Mo_separates l hfl dC dI cI cJ a H.size th tr dp zi co sh lt ts mf z108 hok) (tx_cb (n := 1) hts rfl rfl ⟨Nat.le_of_ble_eq_true rfl, Nat.le_of_ble_eq_true rfl⟩ (tx_code.of (hts _ mw_1464)) (hts _ mw_12) (by decide +kernel) (hts _ mw_1461)) (hts _ mw_1463) (hts _ ms_Mo_separates) ⟨tz_blind, sv_recv (q0 := 0) hts in_Mo hK hI kM_0 rfl, fun U hU hW => ⟨rfl, by rw [hU], by rw [hU]; exact hI.1, va_K.moved hW.alike hK, hst _ _ hI.2 U hU hW⟩⟩ rfl rfl hl.1 rfl (lv_room (Nat.le_of_ble_eq_true rfl)) d_Mo_lengthFrom_50 ⟨Nat.le_of_ble_eq_true rfl, Nat.le_of_ble_eq_true rfl⟩) hI.2 (fun q _ h => ga_sub hAC hA0 hI.2 q h) (ga_sub hAC hA0 hI.2) (fun v t H1 locs1 ht hWt hpost _ _ hS => ?_) (fun x t H1 locs1 ht hWt hpost _ _ hS => (hpost.2 x rfl).elim)
          rcases hpost.1 _ rfl with ⟨z109, t_tr110, hv, c111, c111_0, c111_1, c111_2, hI1⟩ | ⟨z112, hv, c113, c113_0, c113_1, c113_2, hI1⟩
          · cases hv
            have hI : sI (dC, dI) vcl cI cJ (gsM a th t_tr110 dp zi co sh lt ts mf) A s.heap H1 locs1 := ⟨by rw [← ht]; exact hI1, hS⟩
            obtain ⟨-, ⟨o114, o115⟩, -, -, -, -, -, -, -⟩ := id c111
            clear hpost hI1 hS ht hWt
            revert hI; generalize H1 = H; generalize locs1 = locs; intro hI
            refine sn_if_ne (tgt := 62) hx hb d_Mo_lengthFrom_53 (by decide) (fun b116 => ?_) (fun b116 => ?_)
            · refine lv_iload hx hb d_Mo_lengthFrom_62 (lv_at hl 4 rfl) ?_
              refine lv_iload_n hx hb d_Mo_lengthFrom_64 rfl (lv_at hl 3 rfl) ?_
              refine sn_isub hx hb d_Mo_lengthFrom_65 (by omega) (by omega) (fun z117 hz117 => ?_)
              subst hZ
              exact tz_ret (W.iret (v := z117) hx hb hr (fun t ht hW => ⟨⟨fun v9 hv9 => by cases hv9; exact (Or.inl ⟨z117, t_tr110, rfl, c111, by omega, by omega, by omega, by rw [ht]; exact hI.1⟩), fun x9 hx9 => (by cases hx9)⟩, hI.2.F ht⟩) hI.2.2.2 d_Mo_lengthFrom_66)
            · refine sn_iinc (k := 4) hx hb d_Mo_lengthFrom_56 hl rfl (by decide) (by decide) (by omega) (by omega) (fun ls z118 hz118 hl => ?_)
              have hl : lv_has ls 5 [(4, .int z118), (0, .ref (a 0)), (1, .int x1), (2, .int x2), (3, .int x3)] := hl
              refine lv_goto (tgt := 20) hx hb d_Mo_lengthFrom_59 (by decide) ?_
              exact j20p 25 _ _ _ z118 t_tr110 hI c111 (by omega) (by omega) (by omega) (by omega) (lv_sub hl [1, 2, 3, 4, 0] rfl) (by omega)
          · cases hv
            have hI : sI (dC, dI) vcl cI cJ (gsM a th tr dp zi co sh lt ts mf) A s.heap H1 locs1 := ⟨by rw [← ht]; exact hI1, hS⟩
            clear hpost hI1 hS ht hWt
            revert hI; generalize H1 = H; generalize locs1 = locs; intro hI
            refine sn_if_ne (tgt := 62) hx hb d_Mo_lengthFrom_53 (by decide) (fun b119 => ?_) (fun b119 => ?_)
            · refine lv_iload hx hb d_Mo_lengthFrom_62 (lv_at hl 4 rfl) ?_
              refine lv_iload_n hx hb d_Mo_lengthFrom_64 rfl (lv_at hl 3 rfl) ?_
              refine sn_isub hx hb d_Mo_lengthFrom_65 (by omega) (by omega) (fun z120 hz120 => ?_)
              subst hZ
              exact tz_ret (W.iret (v := z120) hx hb hr (fun t ht hW => ⟨⟨fun v9 hv9 => by cases hv9; exact (Or.inr (⟨z120, rfl, c113, by omega, by omega, by omega, by rw [ht]; exact hI.1⟩)), fun x9 hx9 => (by cases hx9)⟩, hI.2.F ht⟩) hI.2.2.2 d_Mo_lengthFrom_66)
            · refine sn_iinc (k := 4) hx hb d_Mo_lengthFrom_56 hl rfl (by decide) (by decide) (by omega) (by omega) (fun ls z121 hz121 hl => ?_)
              have hl : lv_has ls 5 [(4, .int z121), (0, .ref (a 0)), (1, .int x1), (2, .int x2), (3, .int x3)] := hl
              refine lv_goto (tgt := 20) hx hb d_Mo_lengthFrom_59 (by decide) ?_
              exact ih _ _ _ z121 hI c113 (by omega) (by omega) (by omega) (lv_sub hl [1, 2, 3, 4, 0] rfl) (by omega)
  refine lv_aload_n hx hb d_Mo_lengthFrom_0 rfl (lv_at hl 0 rfl) ?_
  refine lv_aload_n hx hb d_Mo_lengthFrom_1 rfl (lv_at hl 0 rfl) ?_
  refine sv_getr (C := "StoryMachineModel") (T := T_Mo) (N := 51) hx hb hts in_Mo hown hK hI 0 kM_0 rfl 1 (by decide) (hts _ mw_1064) rfl d_Mo_lengthFrom_2 ?_
  refine lv_iload_n hx hb d_Mo_lengthFrom_5 rfl (lv_at hl 1 rfl) ?_
  refine lv_iload_n hx hb d_Mo_lengthFrom_6 rfl (lv_at hl 3 rfl) ?_
  refine sn_iadd hx hb d_Mo_lengthFrom_7 (by omega) (by omega) (fun z122 hz122 => ?_)
  refine sv_ialde hx hb hK hI 1 kM_1 (by omega) (by omega) d_Mo_lengthFrom_8 (fun z123 hz123 => ?_)
  have hz123r := hok.2.2.2.2.2.2.2.2 (z122.toNatClampNeg)
  rw [← hz123] at hz123r
  have hz123x : z123.toInt = (mf z122.toInt.toNat).toInt := by rw [hz123]; rfl
  refine tz_call (A1 := ga (adM a) H.size) (tz_runV (C := "StoryMachineModel") (As := [.int z123]) (rest := []) ⟨hx, hb, hml, hown, hts⟩ (c_Mo_separates l hfl dC dI cI cJ a H.size th tr dp zi co sh lt ts mf z123 hok) (tx_cb (n := 1) hts rfl rfl ⟨Nat.le_of_ble_eq_true rfl, Nat.le_of_ble_eq_true rfl⟩ (tx_code.of (hts _ mw_1464)) (hts _ mw_12) (by decide +kernel) (hts _ mw_1461)) (hts _ mw_1463) (hts _ ms_Mo_separates) ⟨tz_blind, sv_recv (q0 := 0) hts in_Mo hK hI kM_0 rfl, fun U hU hW => ⟨rfl, by rw [hU], by rw [hU]; exact hI.1, va_K.moved hW.alike hK, hst _ _ hI.2 U hU hW⟩⟩ rfl rfl hl.1 rfl (lv_room (Nat.le_of_ble_eq_true rfl)) d_Mo_lengthFrom_9 ⟨Nat.le_of_ble_eq_true rfl, Nat.le_of_ble_eq_true rfl⟩) hI.2 (fun q _ h => ga_sub hAC hA0 hI.2 q h) (ga_sub hAC hA0 hI.2) (fun v t H1 locs1 ht hWt hpost _ _ hS => ?_) (fun x t H1 locs1 ht hWt hpost _ _ hS => (hpost.2 x rfl).elim)
  rcases hpost.1 _ rfl with ⟨z124, t_tr125, hv, c126, c126_0, c126_1, c126_2, hI1⟩ | ⟨z127, hv, c128, c128_0, c128_1, c128_2, hI1⟩
  · cases hv
    have hI : sI (dC, dI) vcl cI cJ (gsM a th t_tr125 dp zi co sh lt ts mf) A s.heap H1 locs1 := ⟨by rw [← ht]; exact hI1, hS⟩
    obtain ⟨-, ⟨o129, o130⟩, -, -, -, -, -, -, -⟩ := id c126
    clear hpost hI1 hS ht hWt
    revert hI; generalize H1 = H; generalize locs1 = locs; intro hI
    refine sn_if_eq (tgt := 17) hx hb d_Mo_lengthFrom_12 (by decide) (fun b131 => ?_) (fun b131 => ?_)
    · refine lv_iload_n hx hb d_Mo_lengthFrom_17 rfl (lv_at hl 3 rfl) ?_
      refine lv_istore (lv' := [(4, .int x3), (0, .ref (a 0)), (1, .int x1), (2, .int x2), (3, .int x3)]) hx hb d_Mo_lengthFrom_18 hl (by decide) rfl (fun ls hl => ?_)
      exact j20p 25 _ _ _ x3 t_tr125 hI c126 (by omega) (by omega) (by omega) (by omega) (lv_sub hl [1, 2, 3, 4, 0] rfl) (by omega)
    · refine sn_iconst hx hb d_Mo_lengthFrom_15 (by decide) (fun z132 hz132 => ?_)
      subst hZ
      exact tz_ret (W.iret (v := z132) hx hb hr (fun t ht hW => ⟨⟨fun v9 hv9 => by cases hv9; exact (Or.inl ⟨z132, t_tr125, rfl, c126, by omega, by omega, by omega, by rw [ht]; exact hI.1⟩), fun x9 hx9 => (by cases hx9)⟩, hI.2.F ht⟩) hI.2.2.2 d_Mo_lengthFrom_16)
  · cases hv
    have hI : sI (dC, dI) vcl cI cJ (gsM a th tr dp zi co sh lt ts mf) A s.heap H1 locs1 := ⟨by rw [← ht]; exact hI1, hS⟩
    clear hpost hI1 hS ht hWt
    revert hI; generalize H1 = H; generalize locs1 = locs; intro hI
    refine sn_if_eq (tgt := 17) hx hb d_Mo_lengthFrom_12 (by decide) (fun b133 => ?_) (fun b133 => ?_)
    · refine lv_iload_n hx hb d_Mo_lengthFrom_17 rfl (lv_at hl 3 rfl) ?_
      refine lv_istore (lv' := [(4, .int x3), (0, .ref (a 0)), (1, .int x1), (2, .int x2), (3, .int x3)]) hx hb d_Mo_lengthFrom_18 hl (by decide) rfl (fun ls hl => ?_)
      exact j20z 25 _ _ _ x3 hI c128 (by omega) (by omega) (by omega) (lv_sub hl [1, 2, 3, 4, 0] rfl) (by omega)
    · refine sn_iconst hx hb d_Mo_lengthFrom_15 (by decide) (fun z134 hz134 => ?_)
      subst hZ
      exact tz_ret (W.iret (v := z134) hx hb hr (fun t ht hW => ⟨⟨fun v9 hv9 => by cases hv9; exact (Or.inr (⟨z134, rfl, c128, by omega, by omega, by omega, by rw [ht]; exact hI.1⟩)), fun x9 hx9 => (by cases hx9)⟩, hI.2.F ht⟩) hI.2.2.2 d_Mo_lengthFrom_16)
abbrev q_Mo_findWords (dC : Nat → ClassId) (dI : Nat → Nat → Nat) (cI cJ : ClassId) (a : Nat → Nat) (th tr dp zi co sh lt ts : Int) (mf : Nat → Int32) (x1 : Int32) (x2 : Int32) : Outcome → State → Prop := fun o t => (∀ v, o = .returned v → ((∃ (z : Int32) (tr_ : Int), v = some (.int z) ∧ okM th tr_ dp zi co sh lt ts mf ∧ (0 ≤ z.toInt) ∧ (z.toInt ≤ 24) ∧ (1 ≤ x2.toInt) ∧ (1 ≤ tr_) ∧ sh_I (dC, dI) vcl cI cJ (gsM a th tr_ dp zi co sh lt ts mf) t.heap) ∨ (∃ (z : Int32), v = some (.int z) ∧ okM th tr dp zi co sh lt ts mf ∧ (0 ≤ z.toInt) ∧ (z.toInt ≤ 0) ∧ (x2.toInt ≤ 0) ∧ sh_I (dC, dI) vcl cI cJ (gsM a th tr dp zi co sh lt ts mf) t.heap) ∨ (∃ (z : Int32), v = some (.int z) ∧ okM th tr dp zi co sh lt ts mf ∧ (0 ≤ z.toInt) ∧ (z.toInt ≤ 24) ∧ (1 ≤ x2.toInt) ∧ (tr ≤ 0) ∧ sh_I (dC, dI) vcl cI cJ (gsM a th tr dp zi co sh lt ts mf) t.heap))) ∧ (∀ x, o = .threw x → (False))
def rm_Mo_findWords : Room := { frames := 5, cells := 0, slots := 0, locals := 115 }
set_option maxHeartbeats 4000000 in
set_option maxRecDepth 100000 in
theorem c_Mo_findWords (l : Launch) (hfl : l.flags = pinnedFlags ++ [noTraceFlag]) (dC : Nat → ClassId) (dI : Nat → Nat → Nat) (cI cJ : ClassId) (a : Nat → Nat) (sz : Nat) (th tr dp zi co sh lt ts : Int) (mf : Nat → Int32) (x1 : Int32) (x2 : Int32) (hok : okM th tr dp zi co sh lt ts mf) (hp0 : 1 ≤ x1.toInt) (hp1 : x1.toInt ≤ 511) (hp2 : 0 ≤ x2.toInt) (hp3 : x2.toInt ≤ 24) (hp4 : x1.toInt + x2.toInt ≤ 511) : tz_Met l ⟨"StoryMachineModel", "findWords", "(II)I"⟩ tw_tbl rm_Mo_findWords (tzP (dC, dI) vcl cI cJ (gsM a th tr dp zi co sh lt ts mf) a (adM a) [.ref (a 0), .int x1, .int x2] sz) (tq_Q (q_Mo_findWords dC dI cI cJ a th tr dp zi co sh lt ts mf x1 x2) (ga (adM a) sz)) 0 0 0 0 (ga (adM a) sz) := by
  refine tz_ofW (cc := prog_13_method_66_code) (maxL := 5) (ret := (some .int)) (by decide) (tx_isM mw_1456) ?_
  intro p e s m args below meth c s₁ B hml hv
  obtain ⟨rfl, hsz, hI0, hK, hst0⟩ := hv
  have hx := B.exec
  have hb := B.bytes
  have hr := B.returns
  have hts := atoms_spec (ws := tw_tbl) B.pre
  have hown : s.vm.findClass "StoryMachineModel" = some m.cls := findClass_of_methodNamed B.named
  have hlocks := B.notSynchronized
  subst hsz
  have hst := fun (H : Heap) (locs : List Loc) (hS : va_S (ga (adM a) s.heap.size) s.heap H locs) (U : State) (hU : U.heap = H) (hW : s.WarmedH U.vm) => zS_all adM_map hI0 hst0 hS hU hW
  have hAC : ∀ q ∈ adM a, ga (adM a) s.heap.size q := fun q h => Or.inl h
  have hA0 : ∀ q, s.heap.size ≤ q → ga (adM a) s.heap.size q := fun q h => Or.inr h
  have hI : sI (dC, dI) vcl cI cJ (gsM a th tr dp zi co sh lt ts mf) (ga (adM a) s.heap.size) s.heap s.heap [] := ⟨hI0, va_S.rf⟩
  clear hI0 hst0
  have hl := lv_entry ([.ref (a 0), .int x1, .int x2]) (n := 5) (Nat.le_of_ble_eq_true rfl)
  rw [lg_entry_eq]
  generalize (lg_sl ([.ref (a 0), .int x1, .int x2]) ++ List.replicate (5 - (lg_sl ([.ref (a 0), .int x1, .int x2])).length) Slot.unset).toArray = ls at hl ⊢
  have hl : lv_has ls 5 [(0, .ref (a 0)), (1, .int x1), (2, .int x2)] := hl
  generalize hZ : tz_MQ below (tq_Q (q_Mo_findWords dC dI cI cJ a th tr dp zi co sh lt ts mf x1 x2) (ga (adM a) s.heap.size)) ([.ref (a 0), .int x1, .int x2] : List Value).toArray s 0 0 0 0 (ga (adM a) s.heap.size) = Z
  obtain ⟨A, hAe⟩ : ∃ A, A = ga (adM a) s.heap.size := ⟨_, rfl⟩
  rw [← hAe] at hst hAC hA0 hI hZ
  refine sv_start hI (fun H locs hI => ?_)
  obtain ⟨⟨o1, o2⟩, ⟨o3, o4⟩, ⟨o5, o6⟩, ⟨o7, o8⟩, ⟨o9, o10⟩, ⟨o11, o12⟩, ⟨o13, o14⟩, ⟨o15, o16⟩, -⟩ := id hok
  have gx1 := sn_rng x1
  have gx2 := sn_rng x2
  have j5p : ∀ (H : Heap) (locs : List Loc) (ls : Array Slot) (v5p_3 v5p_4 : Int32) (t5p_tr : Int), sI (dC, dI) vcl cI cJ (gsM a th t5p_tr dp zi co sh lt ts mf) A s.heap H locs → okM th t5p_tr dp zi co sh lt ts mf → 0 ≤ v5p_3.toInt → v5p_3.toInt ≤ 24 → 1 ≤ v5p_4.toInt → v5p_4.toInt ≤ 24 → 1 ≤ t5p_tr → t5p_tr ≤ 4 → tr ≤ 0 → 1 ≤ x2.toInt → v5p_3.toInt ≤ v5p_4.toInt → lv_has ls 5 [(0, .ref (a 0)), (1, .int x1), (2, .int x2), (3, .int v5p_3), (4, .int v5p_4)] → W p l e (headSpec tw_tbl rm_Mo_findWords).room s m ([.ref (a 0), .int x1, .int x2] : List Value).toArray below meth c H locs 0 0 Z (F0 m 5 ls []) := by
    intro H locs ls v5p_3 v5p_4 t5p_tr hI hok g5_0 g5_1 g5_2 g5_3 g5_4 g5_5 g5_6 g5_7 g5_8 hl
    obtain ⟨⟨o17, o18⟩, ⟨o19, o20⟩, ⟨o21, o22⟩, ⟨o23, o24⟩, ⟨o25, o26⟩, ⟨o27, o28⟩, ⟨o29, o30⟩, ⟨o31, o32⟩, -⟩ := id hok
    refine lv_iload hx hb d_Mo_findWords_5 (lv_at hl 4 rfl) ?_
    refine lv_iload_n hx hb d_Mo_findWords_7 rfl (lv_at hl 2 rfl) ?_
    refine sn_icmp_ge (tgt := 59) hx hb d_Mo_findWords_8 (by decide) (fun b33 => ?_) (fun b33 => ?_)
    · refine lv_iload_n hx hb d_Mo_findWords_59 rfl (lv_at hl 3 rfl) ?_
      subst hZ
      exact tz_ret (W.iret (v := v5p_3) hx hb hr (fun t ht hW => ⟨⟨fun v9 hv9 => by cases hv9; exact (Or.inl ⟨v5p_3, t5p_tr, rfl, hok, by omega, by omega, by omega, by omega, by rw [ht]; exact hI.1⟩), fun x9 hx9 => (by cases hx9)⟩, hI.2.F ht⟩) hI.2.2.2 d_Mo_findWords_60)
    · refine lv_aload_n hx hb d_Mo_findWords_11 rfl (lv_at hl 0 rfl) ?_
      refine sv_gete (C := "StoryMachineModel") (T := T_Mo) (N := 51) hx hb hts in_Mo hown hK hI 0 kM_0 rfl 25 (by decide) (hts _ mw_1088) rfl d_Mo_findWords_12 (fun z34 hz34 => ?_)
      refine sn_if_ne (tgt := 59) hx hb d_Mo_findWords_15 (by decide) (fun b35 => ?_) (fun b35 => ?_)
      · refine lv_iload_n hx hb d_Mo_findWords_59 rfl (lv_at hl 3 rfl) ?_
        subst hZ
        exact tz_ret (W.iret (v := v5p_3) hx hb hr (fun t ht hW => ⟨⟨fun v9 hv9 => by cases hv9; exact (Or.inl ⟨v5p_3, t5p_tr, rfl, hok, by omega, by omega, by omega, by omega, by rw [ht]; exact hI.1⟩), fun x9 hx9 => (by cases hx9)⟩, hI.2.F ht⟩) hI.2.2.2 d_Mo_findWords_60)
      · omega
  have j5z : ∀ (n : Nat) (H : Heap) (locs : List Loc) (ls : Array Slot) (v5z_3 v5z_4 : Int32), sI (dC, dI) vcl cI cJ (gsM a th tr dp zi co sh lt ts mf) A s.heap H locs → okM th tr dp zi co sh lt ts mf → 0 ≤ v5z_3.toInt → v5z_3.toInt ≤ 24 → 1 ≤ v5z_4.toInt → v5z_4.toInt ≤ 24 → tr ≤ 0 → 1 ≤ x2.toInt → v5z_3.toInt ≤ v5z_4.toInt → lv_has ls 5 [(0, .ref (a 0)), (1, .int x1), (2, .int x2), (3, .int v5z_3), (4, .int v5z_4)] → 24 - v5z_4.toInt < (n : Int) → W p l e (headSpec tw_tbl rm_Mo_findWords).room s m ([.ref (a 0), .int x1, .int x2] : List Value).toArray below meth c H locs 0 0 Z (F0 m 5 ls []) := by
    intro n
    induction n with
    | zero => intro H locs ls v5z_3 v5z_4 hI hok g5_0 g5_1 g5_2 g5_3 g5_4 g5_5 g5_6 hl hme; exfalso; obtain ⟨⟨o36, o37⟩, ⟨o38, o39⟩, ⟨o40, o41⟩, ⟨o42, o43⟩, ⟨o44, o45⟩, ⟨o46, o47⟩, ⟨o48, o49⟩, ⟨o50, o51⟩, -⟩ := id hok; omega
    | succ n ih =>
      intro H locs ls v5z_3 v5z_4 hI hok g5_0 g5_1 g5_2 g5_3 g5_4 g5_5 g5_6 hl hme
      obtain ⟨⟨o52, o53⟩, ⟨o54, o55⟩, ⟨o56, o57⟩, ⟨o58, o59⟩, ⟨o60, o61⟩, ⟨o62, o63⟩, ⟨o64, o65⟩, ⟨o66, o67⟩, -⟩ := id hok
      refine lv_iload hx hb d_Mo_findWords_5 (lv_at hl 4 rfl) ?_
      refine lv_iload_n hx hb d_Mo_findWords_7 rfl (lv_at hl 2 rfl) ?_
      refine sn_icmp_ge (tgt := 59) hx hb d_Mo_findWords_8 (by decide) (fun b68 => ?_) (fun b68 => ?_)
      · refine lv_iload_n hx hb d_Mo_findWords_59 rfl (lv_at hl 3 rfl) ?_
        subst hZ
        exact tz_ret (W.iret (v := v5z_3) hx hb hr (fun t ht hW => ⟨⟨fun v9 hv9 => by cases hv9; exact (Or.inr (Or.inr (⟨v5z_3, rfl, hok, by omega, by omega, by omega, by omega, by rw [ht]; exact hI.1⟩))), fun x9 hx9 => (by cases hx9)⟩, hI.2.F ht⟩) hI.2.2.2 d_Mo_findWords_60)
      · refine lv_aload_n hx hb d_Mo_findWords_11 rfl (lv_at hl 0 rfl) ?_
        refine sv_gete (C := "StoryMachineModel") (T := T_Mo) (N := 51) hx hb hts in_Mo hown hK hI 0 kM_0 rfl 25 (by decide) (hts _ mw_1088) rfl d_Mo_findWords_12 (fun z69 hz69 => ?_)
        refine sn_if_ne (tgt := 59) hx hb d_Mo_findWords_15 (by decide) (fun b70 => ?_) (fun b70 => ?_)
        · omega
        · refine lv_aload_n hx hb d_Mo_findWords_18 rfl (lv_at hl 0 rfl) ?_
          refine lv_iload_n hx hb d_Mo_findWords_19 rfl (lv_at hl 1 rfl) ?_
          refine lv_iload hx hb d_Mo_findWords_20 (lv_at hl 4 rfl) ?_
          refine tz_call (A1 := ga (adM a) H.size) (tz_runV (C := "StoryMachineModel") (As := [.int x1, .int v5z_4]) (rest := []) ⟨hx, hb, hml, hown, hts⟩ (c_Mo_begins l hfl dC dI cI cJ a H.size th tr dp zi co sh lt ts mf x1 v5z_4 hok (by omega) (by omega) (by omega) (by omega) (by omega)) (tx_cb (n := 2) hts rfl rfl ⟨Nat.le_of_ble_eq_true rfl, Nat.le_of_ble_eq_true rfl⟩ (tx_code.of (hts _ mw_1460)) (hts _ mw_12) (by decide +kernel) (hts _ mw_1457)) (hts _ mw_1459) (hts _ ms_Mo_begins) ⟨tz_blind, sv_recv (q0 := 0) hts in_Mo hK hI kM_0 rfl, fun U hU hW => ⟨rfl, by rw [hU], by rw [hU]; exact hI.1, va_K.moved hW.alike hK, hst _ _ hI.2 U hU hW⟩⟩ rfl rfl hl.1 rfl (lv_room (Nat.le_of_ble_eq_true rfl)) d_Mo_findWords_22 ⟨Nat.le_of_ble_eq_true rfl, Nat.le_of_ble_eq_true rfl⟩) hI.2 (fun q _ h => ga_sub hAC hA0 hI.2 q h) (ga_sub hAC hA0 hI.2) (fun v t H1 locs1 ht hWt hpost _ _ hS => ?_) (fun x t H1 locs1 ht hWt hpost _ _ hS => (hpost.2 x rfl).elim)
          rcases hpost.1 _ rfl with ⟨z71, t_tr72, hv, c73, c73_0, c73_1, c73_2, hI1⟩ | ⟨z74, t_tr75, hv, c76, c76_0, c76_1, c76_2, hI1⟩ | ⟨z77, hv, c78, c78_0, c78_1, c78_2, hI1⟩ | ⟨z79, hv, c80, c80_0, c80_1, c80_2, hI1⟩
          · cases hv
            have hI : sI (dC, dI) vcl cI cJ (gsM a th t_tr72 dp zi co sh lt ts mf) A s.heap H1 locs1 := ⟨by rw [← ht]; exact hI1, hS⟩
            obtain ⟨-, ⟨o81, o82⟩, -, -, -, -, -, -, -⟩ := id c73
            clear hpost hI1 hS ht hWt
            revert hI; generalize H1 = H; generalize locs1 = locs; intro hI
            refine sn_if_eq (tgt := 53) hx hb d_Mo_findWords_25 (by decide) (fun b83 => ?_) (fun b83 => ?_)
            · refine sn_iinc (k := 4) hx hb d_Mo_findWords_53 hl rfl (by decide) (by decide) (by omega) (by omega) (fun ls z84 hz84 hl => ?_)
              have hl : lv_has ls 5 [(4, .int z84), (0, .ref (a 0)), (1, .int x1), (2, .int x2), (3, .int v5z_3)] := hl
              refine lv_goto (tgt := 5) hx hb d_Mo_findWords_56 (by decide) ?_
              exact j5p _ _ _ v5z_3 z84 t_tr72 hI c73 (by omega) (by omega) (by omega) (by omega) (by omega) (by omega) (by omega) (by omega) (by omega) (lv_sub hl [1, 2, 3, 4, 0] rfl)
            · omega
          · cases hv
            have hI : sI (dC, dI) vcl cI cJ (gsM a th t_tr75 dp zi co sh lt ts mf) A s.heap H1 locs1 := ⟨by rw [← ht]; exact hI1, hS⟩
            obtain ⟨-, ⟨o85, o86⟩, -, -, -, -, -, -, -⟩ := id c76
            clear hpost hI1 hS ht hWt
            revert hI; generalize H1 = H; generalize locs1 = locs; intro hI
            refine sn_if_eq (tgt := 53) hx hb d_Mo_findWords_25 (by decide) (fun b87 => ?_) (fun b87 => ?_)
            · omega
            · refine lv_aload_n hx hb d_Mo_findWords_28 rfl (lv_at hl 0 rfl) ?_
              refine sv_getr (C := "StoryMachineModel") (T := T_Mo) (N := 51) hx hb hts in_Mo hown hK hI 0 kM_0 rfl 49 (by decide) (hts _ mw_1112) rfl d_Mo_findWords_29 ?_
              refine lv_iload_n hx hb d_Mo_findWords_32 rfl (lv_at hl 3 rfl) ?_
              refine lv_iload hx hb d_Mo_findWords_33 (lv_at hl 4 rfl) ?_
              refine sv_iastr hx hb hK (sh_in adM_map hAC) hI 20 kM_20 (by omega) (by omega) (by omega) (by omega) pM_20 d_Mo_findWords_35 (fun H locs hI => ?_)
              refine lv_aload_n hx hb d_Mo_findWords_36 rfl (lv_at hl 0 rfl) ?_
              refine sv_getr (C := "StoryMachineModel") (T := T_Mo) (N := 51) hx hb hts in_Mo hown hK hI 0 kM_0 rfl 50 (by decide) (hts _ mw_1113) rfl d_Mo_findWords_37 ?_
              refine lv_iload_n hx hb d_Mo_findWords_40 rfl (lv_at hl 3 rfl) ?_
              refine lv_aload_n hx hb d_Mo_findWords_41 rfl (lv_at hl 0 rfl) ?_
              refine lv_iload_n hx hb d_Mo_findWords_42 rfl (lv_at hl 1 rfl) ?_
              refine lv_iload_n hx hb d_Mo_findWords_43 rfl (lv_at hl 2 rfl) ?_
              refine lv_iload hx hb d_Mo_findWords_44 (lv_at hl 4 rfl) ?_
              refine tz_call (A1 := ga (adM a) H.size) (tz_runV (C := "StoryMachineModel") (As := [.int x1, .int x2, .int v5z_4]) (rest := [.int v5z_3, .ref (a 21)]) ⟨hx, hb, hml, hown, hts⟩ (c_Mo_lengthFrom l hfl dC dI cI cJ a H.size th t_tr75 dp zi co sh lt ts mf x1 x2 v5z_4 c76 (by omega) (by omega) (by omega) (by omega) (by omega) (by omega) (by omega) (by omega)) (tx_cb (n := 3) hts rfl rfl ⟨Nat.le_of_ble_eq_true rfl, Nat.le_of_ble_eq_true rfl⟩ (tx_code.of (hts _ mw_1468)) (hts _ mw_12) (by decide +kernel) (hts _ mw_1465)) (hts _ mw_1467) (hts _ ms_Mo_lengthFrom) ⟨tz_blind, sv_recv (q0 := 0) hts in_Mo hK hI kM_0 rfl, fun U hU hW => ⟨rfl, by rw [hU], by rw [hU]; exact hI.1, va_K.moved hW.alike hK, hst _ _ hI.2 U hU hW⟩⟩ rfl rfl hl.1 rfl (lv_room (Nat.le_of_ble_eq_true rfl)) d_Mo_findWords_46 ⟨Nat.le_of_ble_eq_true rfl, Nat.le_of_ble_eq_true rfl⟩) hI.2 (fun q _ h => ga_sub hAC hA0 hI.2 q h) (ga_sub hAC hA0 hI.2) (fun v t H1 locs1 ht hWt hpost _ _ hS => ?_) (fun x t H1 locs1 ht hWt hpost _ _ hS => (hpost.2 x rfl).elim)
              rcases hpost.1 _ rfl with ⟨z88, t_tr89, hv, c90, c90_0, c90_1, c90_2, hI1⟩ | ⟨z91, hv, c92, c92_0, c92_1, c92_2, hI1⟩
              · cases hv
                have hI : sI (dC, dI) vcl cI cJ (gsM a th t_tr89 dp zi co sh lt ts mf) A s.heap H1 locs1 := ⟨by rw [← ht]; exact hI1, hS⟩
                obtain ⟨-, ⟨o93, o94⟩, -, -, -, -, -, -, -⟩ := id c90
                clear hpost hI1 hS ht hWt
                revert hI; generalize H1 = H; generalize locs1 = locs; intro hI
                refine sv_iastr hx hb hK (sh_in adM_map hAC) hI 21 kM_21 (by omega) (by omega) (by omega) (by omega) pM_21 d_Mo_findWords_49 (fun H locs hI => ?_)
                refine sn_iinc (k := 3) hx hb d_Mo_findWords_50 hl rfl (by decide) (by decide) (by omega) (by omega) (fun ls z95 hz95 hl => ?_)
                have hl : lv_has ls 5 [(3, .int z95), (0, .ref (a 0)), (1, .int x1), (2, .int x2), (4, .int v5z_4)] := hl
                refine sn_iinc (k := 4) hx hb d_Mo_findWords_53 hl rfl (by decide) (by decide) (by omega) (by omega) (fun ls z96 hz96 hl => ?_)
                have hl : lv_has ls 5 [(4, .int z96), (3, .int z95), (0, .ref (a 0)), (1, .int x1), (2, .int x2)] := hl
                refine lv_goto (tgt := 5) hx hb d_Mo_findWords_56 (by decide) ?_
                exact j5p _ _ _ z95 z96 t_tr89 hI c90 (by omega) (by omega) (by omega) (by omega) (by omega) (by omega) (by omega) (by omega) (by omega) (lv_sub hl [2, 3, 4, 1, 0] rfl)
              · omega
          · cases hv
            have hI : sI (dC, dI) vcl cI cJ (gsM a th tr dp zi co sh lt ts mf) A s.heap H1 locs1 := ⟨by rw [← ht]; exact hI1, hS⟩
            clear hpost hI1 hS ht hWt
            revert hI; generalize H1 = H; generalize locs1 = locs; intro hI
            refine sn_if_eq (tgt := 53) hx hb d_Mo_findWords_25 (by decide) (fun b97 => ?_) (fun b97 => ?_)
            · refine sn_iinc (k := 4) hx hb d_Mo_findWords_53 hl rfl (by decide) (by decide) (by omega) (by omega) (fun ls z98 hz98 hl => ?_)
              have hl : lv_has ls 5 [(4, .int z98), (0, .ref (a 0)), (1, .int x1), (2, .int x2), (3, .int v5z_3)] := hl
              refine lv_goto (tgt := 5) hx hb d_Mo_findWords_56 (by decide) ?_
              exact ih _ _ _ v5z_3 z98 hI c78 (by omega) (by omega) (by omega) (by omega) (by omega) (by omega) (by omega) (lv_sub hl [1, 2, 3, 4, 0] rfl) (by omega)
            · omega
          · cases hv
            have hI : sI (dC, dI) vcl cI cJ (gsM a th tr dp zi co sh lt ts mf) A s.heap H1 locs1 := ⟨by rw [← ht]; exact hI1, hS⟩
            clear hpost hI1 hS ht hWt
            revert hI; generalize H1 = H; generalize locs1 = locs; intro hI
            refine sn_if_eq (tgt := 53) hx hb d_Mo_findWords_25 (by decide) (fun b99 => ?_) (fun b99 => ?_)
            · omega
            · refine lv_aload_n hx hb d_Mo_findWords_28 rfl (lv_at hl 0 rfl) ?_
              refine sv_getr (C := "StoryMachineModel") (T := T_Mo) (N := 51) hx hb hts in_Mo hown hK hI 0 kM_0 rfl 49 (by decide) (hts _ mw_1112) rfl d_Mo_findWords_29 ?_
              refine lv_iload_n hx hb d_Mo_findWords_32 rfl (lv_at hl 3 rfl) ?_
              refine lv_iload hx hb d_Mo_findWords_33 (lv_at hl 4 rfl) ?_
              refine sv_iastr hx hb hK (sh_in adM_map hAC) hI 20 kM_20 (by omega) (by omega) (by omega) (by omega) pM_20 d_Mo_findWords_35 (fun H locs hI => ?_)
              refine lv_aload_n hx hb d_Mo_findWords_36 rfl (lv_at hl 0 rfl) ?_
              refine sv_getr (C := "StoryMachineModel") (T := T_Mo) (N := 51) hx hb hts in_Mo hown hK hI 0 kM_0 rfl 50 (by decide) (hts _ mw_1113) rfl d_Mo_findWords_37 ?_
              refine lv_iload_n hx hb d_Mo_findWords_40 rfl (lv_at hl 3 rfl) ?_
              refine lv_aload_n hx hb d_Mo_findWords_41 rfl (lv_at hl 0 rfl) ?_
              refine lv_iload_n hx hb d_Mo_findWords_42 rfl (lv_at hl 1 rfl) ?_
              refine lv_iload_n hx hb d_Mo_findWords_43 rfl (lv_at hl 2 rfl) ?_
              refine lv_iload hx hb d_Mo_findWords_44 (lv_at hl 4 rfl) ?_
              refine tz_call (A1 := ga (adM a) H.size) (tz_runV (C := "StoryMachineModel") (As := [.int x1, .int x2, .int v5z_4]) (rest := [.int v5z_3, .ref (a 21)]) ⟨hx, hb, hml, hown, hts⟩ (c_Mo_lengthFrom l hfl dC dI cI cJ a H.size th tr dp zi co sh lt ts mf x1 x2 v5z_4 c80 (by omega) (by omega) (by omega) (by omega) (by omega) (by omega) (by omega) (by omega)) (tx_cb (n := 3) hts rfl rfl ⟨Nat.le_of_ble_eq_true rfl, Nat.le_of_ble_eq_true rfl⟩ (tx_code.of (hts _ mw_1468)) (hts _ mw_12) (by decide +kernel) (hts _ mw_1465)) (hts _ mw_1467) (hts _ ms_Mo_lengthFrom) ⟨tz_blind, sv_recv (q0 := 0) hts in_Mo hK hI kM_0 rfl, fun U hU hW => ⟨rfl, by rw [hU], by rw [hU]; exact hI.1, va_K.moved hW.alike hK, hst _ _ hI.2 U hU hW⟩⟩ rfl rfl hl.1 rfl (lv_room (Nat.le_of_ble_eq_true rfl)) d_Mo_findWords_46 ⟨Nat.le_of_ble_eq_true rfl, Nat.le_of_ble_eq_true rfl⟩) hI.2 (fun q _ h => ga_sub hAC hA0 hI.2 q h) (ga_sub hAC hA0 hI.2) (fun v t H1 locs1 ht hWt hpost _ _ hS => ?_) (fun x t H1 locs1 ht hWt hpost _ _ hS => (hpost.2 x rfl).elim)
              rcases hpost.1 _ rfl with ⟨z100, t_tr101, hv, c102, c102_0, c102_1, c102_2, hI1⟩ | ⟨z103, hv, c104, c104_0, c104_1, c104_2, hI1⟩
              · cases hv
                have hI : sI (dC, dI) vcl cI cJ (gsM a th t_tr101 dp zi co sh lt ts mf) A s.heap H1 locs1 := ⟨by rw [← ht]; exact hI1, hS⟩
                obtain ⟨-, ⟨o105, o106⟩, -, -, -, -, -, -, -⟩ := id c102
                clear hpost hI1 hS ht hWt
                revert hI; generalize H1 = H; generalize locs1 = locs; intro hI
                refine sv_iastr hx hb hK (sh_in adM_map hAC) hI 21 kM_21 (by omega) (by omega) (by omega) (by omega) pM_21 d_Mo_findWords_49 (fun H locs hI => ?_)
                refine sn_iinc (k := 3) hx hb d_Mo_findWords_50 hl rfl (by decide) (by decide) (by omega) (by omega) (fun ls z107 hz107 hl => ?_)
                have hl : lv_has ls 5 [(3, .int z107), (0, .ref (a 0)), (1, .int x1), (2, .int x2), (4, .int v5z_4)] := hl
                refine sn_iinc (k := 4) hx hb d_Mo_findWords_53 hl rfl (by decide) (by decide) (by omega) (by omega) (fun ls z108 hz108 hl => ?_)
                have hl : lv_has ls 5 [(4, .int z108), (3, .int z107), (0, .ref (a 0)), (1, .int x1), (2, .int x2)] := hl
                refine lv_goto (tgt := 5) hx hb d_Mo_findWords_56 (by decide) ?_
                exact j5p _ _ _ z107 z108 t_tr101 hI c102 (by omega) (by omega) (by omega) (by omega) (by omega) (by omega) (by omega) (by omega) (by omega) (lv_sub hl [2, 3, 4, 1, 0] rfl)
              · cases hv
                have hI : sI (dC, dI) vcl cI cJ (gsM a th tr dp zi co sh lt ts mf) A s.heap H1 locs1 := ⟨by rw [← ht]; exact hI1, hS⟩
                clear hpost hI1 hS ht hWt
                revert hI; generalize H1 = H; generalize locs1 = locs; intro hI
                refine sv_iastr hx hb hK (sh_in adM_map hAC) hI 21 kM_21 (by omega) (by omega) (by omega) (by omega) pM_21 d_Mo_findWords_49 (fun H locs hI => ?_)
                refine sn_iinc (k := 3) hx hb d_Mo_findWords_50 hl rfl (by decide) (by decide) (by omega) (by omega) (fun ls z109 hz109 hl => ?_)
                have hl : lv_has ls 5 [(3, .int z109), (0, .ref (a 0)), (1, .int x1), (2, .int x2), (4, .int v5z_4)] := hl
                refine sn_iinc (k := 4) hx hb d_Mo_findWords_53 hl rfl (by decide) (by decide) (by omega) (by omega) (fun ls z110 hz110 hl => ?_)
                have hl : lv_has ls 5 [(4, .int z110), (3, .int z109), (0, .ref (a 0)), (1, .int x1), (2, .int x2)] := hl
                refine lv_goto (tgt := 5) hx hb d_Mo_findWords_56 (by decide) ?_
                exact ih _ _ _ z109 z110 hI c104 (by omega) (by omega) (by omega) (by omega) (by omega) (by omega) (by omega) (lv_sub hl [2, 3, 4, 1, 0] rfl) (by omega)
  have j5u : ∀ (H : Heap) (locs : List Loc) (ls : Array Slot) (v5u_3 v5u_4 : Int32), sI (dC, dI) vcl cI cJ (gsM a th tr dp zi co sh lt ts mf) A s.heap H locs → okM th tr dp zi co sh lt ts mf → 0 ≤ v5u_3.toInt → v5u_3.toInt ≤ 0 → 0 ≤ v5u_4.toInt → v5u_4.toInt ≤ 0 → v5u_3.toInt ≤ v5u_4.toInt → lv_has ls 5 [(0, .ref (a 0)), (1, .int x1), (2, .int x2), (3, .int v5u_3), (4, .int v5u_4)] → W p l e (headSpec tw_tbl rm_Mo_findWords).room s m ([.ref (a 0), .int x1, .int x2] : List Value).toArray below meth c H locs 0 0 Z (F0 m 5 ls []) := by
    intro H locs ls v5u_3 v5u_4 hI hok g5_0 g5_1 g5_2 g5_3 g5_4 hl
    obtain ⟨⟨o111, o112⟩, ⟨o113, o114⟩, ⟨o115, o116⟩, ⟨o117, o118⟩, ⟨o119, o120⟩, ⟨o121, o122⟩, ⟨o123, o124⟩, ⟨o125, o126⟩, -⟩ := id hok
    refine lv_iload hx hb d_Mo_findWords_5 (lv_at hl 4 rfl) ?_
    refine lv_iload_n hx hb d_Mo_findWords_7 rfl (lv_at hl 2 rfl) ?_
    refine sn_icmp_ge (tgt := 59) hx hb d_Mo_findWords_8 (by decide) (fun b127 => ?_) (fun b127 => ?_)
    · refine lv_iload_n hx hb d_Mo_findWords_59 rfl (lv_at hl 3 rfl) ?_
      subst hZ
      exact tz_ret (W.iret (v := v5u_3) hx hb hr (fun t ht hW => ⟨⟨fun v9 hv9 => by cases hv9; exact (Or.inr (Or.inl ⟨v5u_3, rfl, hok, by omega, by omega, by omega, by rw [ht]; exact hI.1⟩)), fun x9 hx9 => (by cases hx9)⟩, hI.2.F ht⟩) hI.2.2.2 d_Mo_findWords_60)
    · refine lv_aload_n hx hb d_Mo_findWords_11 rfl (lv_at hl 0 rfl) ?_
      refine sv_gete (C := "StoryMachineModel") (T := T_Mo) (N := 51) hx hb hts in_Mo hown hK hI 0 kM_0 rfl 25 (by decide) (hts _ mw_1088) rfl d_Mo_findWords_12 (fun z128 hz128 => ?_)
      refine sn_if_ne (tgt := 59) hx hb d_Mo_findWords_15 (by decide) (fun b129 => ?_) (fun b129 => ?_)
      · refine lv_iload_n hx hb d_Mo_findWords_59 rfl (lv_at hl 3 rfl) ?_
        subst hZ
        exact tz_ret (W.iret (v := v5u_3) hx hb hr (fun t ht hW => ⟨⟨fun v9 hv9 => by cases hv9; exact (Or.inl ⟨v5u_3, tr, rfl, hok, by omega, by omega, by omega, by omega, by rw [ht]; exact hI.1⟩), fun x9 hx9 => (by cases hx9)⟩, hI.2.F ht⟩) hI.2.2.2 d_Mo_findWords_60)
      · refine lv_aload_n hx hb d_Mo_findWords_18 rfl (lv_at hl 0 rfl) ?_
        refine lv_iload_n hx hb d_Mo_findWords_19 rfl (lv_at hl 1 rfl) ?_
        refine lv_iload hx hb d_Mo_findWords_20 (lv_at hl 4 rfl) ?_
        refine tz_call (A1 := ga (adM a) H.size) (tz_runV (C := "StoryMachineModel") (As := [.int x1, .int v5u_4]) (rest := []) ⟨hx, hb, hml, hown, hts⟩ (c_Mo_begins l hfl dC dI cI cJ a H.size th tr dp zi co sh lt ts mf x1 v5u_4 hok (by omega) (by omega) (by omega) (by omega) (by omega)) (tx_cb (n := 2) hts rfl rfl ⟨Nat.le_of_ble_eq_true rfl, Nat.le_of_ble_eq_true rfl⟩ (tx_code.of (hts _ mw_1460)) (hts _ mw_12) (by decide +kernel) (hts _ mw_1457)) (hts _ mw_1459) (hts _ ms_Mo_begins) ⟨tz_blind, sv_recv (q0 := 0) hts in_Mo hK hI kM_0 rfl, fun U hU hW => ⟨rfl, by rw [hU], by rw [hU]; exact hI.1, va_K.moved hW.alike hK, hst _ _ hI.2 U hU hW⟩⟩ rfl rfl hl.1 rfl (lv_room (Nat.le_of_ble_eq_true rfl)) d_Mo_findWords_22 ⟨Nat.le_of_ble_eq_true rfl, Nat.le_of_ble_eq_true rfl⟩) hI.2 (fun q _ h => ga_sub hAC hA0 hI.2 q h) (ga_sub hAC hA0 hI.2) (fun v t H1 locs1 ht hWt hpost _ _ hS => ?_) (fun x t H1 locs1 ht hWt hpost _ _ hS => (hpost.2 x rfl).elim)
        rcases hpost.1 _ rfl with ⟨z130, t_tr131, hv, c132, c132_0, c132_1, c132_2, hI1⟩ | ⟨z133, t_tr134, hv, c135, c135_0, c135_1, c135_2, hI1⟩ | ⟨z136, hv, c137, c137_0, c137_1, c137_2, hI1⟩ | ⟨z138, hv, c139, c139_0, c139_1, c139_2, hI1⟩
        · cases hv
          have hI : sI (dC, dI) vcl cI cJ (gsM a th t_tr131 dp zi co sh lt ts mf) A s.heap H1 locs1 := ⟨by rw [← ht]; exact hI1, hS⟩
          obtain ⟨-, ⟨o140, o141⟩, -, -, -, -, -, -, -⟩ := id c132
          clear hpost hI1 hS ht hWt
          revert hI; generalize H1 = H; generalize locs1 = locs; intro hI
          refine sn_if_eq (tgt := 53) hx hb d_Mo_findWords_25 (by decide) (fun b142 => ?_) (fun b142 => ?_)
          · refine sn_iinc (k := 4) hx hb d_Mo_findWords_53 hl rfl (by decide) (by decide) (by omega) (by omega) (fun ls z143 hz143 hl => ?_)
            have hl : lv_has ls 5 [(4, .int z143), (0, .ref (a 0)), (1, .int x1), (2, .int x2), (3, .int v5u_3)] := hl
            refine lv_goto (tgt := 5) hx hb d_Mo_findWords_56 (by decide) ?_
            exact j5p _ _ _ v5u_3 z143 t_tr131 hI c132 (by omega) (by omega) (by omega) (by omega) (by omega) (by omega) (by omega) (by omega) (by omega) (lv_sub hl [1, 2, 3, 4, 0] rfl)
          · omega
        · cases hv
          have hI : sI (dC, dI) vcl cI cJ (gsM a th t_tr134 dp zi co sh lt ts mf) A s.heap H1 locs1 := ⟨by rw [← ht]; exact hI1, hS⟩
          obtain ⟨-, ⟨o144, o145⟩, -, -, -, -, -, -, -⟩ := id c135
          clear hpost hI1 hS ht hWt
          revert hI; generalize H1 = H; generalize locs1 = locs; intro hI
          refine sn_if_eq (tgt := 53) hx hb d_Mo_findWords_25 (by decide) (fun b146 => ?_) (fun b146 => ?_)
          · omega
          · refine lv_aload_n hx hb d_Mo_findWords_28 rfl (lv_at hl 0 rfl) ?_
            refine sv_getr (C := "StoryMachineModel") (T := T_Mo) (N := 51) hx hb hts in_Mo hown hK hI 0 kM_0 rfl 49 (by decide) (hts _ mw_1112) rfl d_Mo_findWords_29 ?_
            refine lv_iload_n hx hb d_Mo_findWords_32 rfl (lv_at hl 3 rfl) ?_
            refine lv_iload hx hb d_Mo_findWords_33 (lv_at hl 4 rfl) ?_
            refine sv_iastr hx hb hK (sh_in adM_map hAC) hI 20 kM_20 (by omega) (by omega) (by omega) (by omega) pM_20 d_Mo_findWords_35 (fun H locs hI => ?_)
            refine lv_aload_n hx hb d_Mo_findWords_36 rfl (lv_at hl 0 rfl) ?_
            refine sv_getr (C := "StoryMachineModel") (T := T_Mo) (N := 51) hx hb hts in_Mo hown hK hI 0 kM_0 rfl 50 (by decide) (hts _ mw_1113) rfl d_Mo_findWords_37 ?_
            refine lv_iload_n hx hb d_Mo_findWords_40 rfl (lv_at hl 3 rfl) ?_
            refine lv_aload_n hx hb d_Mo_findWords_41 rfl (lv_at hl 0 rfl) ?_
            refine lv_iload_n hx hb d_Mo_findWords_42 rfl (lv_at hl 1 rfl) ?_
            refine lv_iload_n hx hb d_Mo_findWords_43 rfl (lv_at hl 2 rfl) ?_
            refine lv_iload hx hb d_Mo_findWords_44 (lv_at hl 4 rfl) ?_
            refine tz_call (A1 := ga (adM a) H.size) (tz_runV (C := "StoryMachineModel") (As := [.int x1, .int x2, .int v5u_4]) (rest := [.int v5u_3, .ref (a 21)]) ⟨hx, hb, hml, hown, hts⟩ (c_Mo_lengthFrom l hfl dC dI cI cJ a H.size th t_tr134 dp zi co sh lt ts mf x1 x2 v5u_4 c135 (by omega) (by omega) (by omega) (by omega) (by omega) (by omega) (by omega) (by omega)) (tx_cb (n := 3) hts rfl rfl ⟨Nat.le_of_ble_eq_true rfl, Nat.le_of_ble_eq_true rfl⟩ (tx_code.of (hts _ mw_1468)) (hts _ mw_12) (by decide +kernel) (hts _ mw_1465)) (hts _ mw_1467) (hts _ ms_Mo_lengthFrom) ⟨tz_blind, sv_recv (q0 := 0) hts in_Mo hK hI kM_0 rfl, fun U hU hW => ⟨rfl, by rw [hU], by rw [hU]; exact hI.1, va_K.moved hW.alike hK, hst _ _ hI.2 U hU hW⟩⟩ rfl rfl hl.1 rfl (lv_room (Nat.le_of_ble_eq_true rfl)) d_Mo_findWords_46 ⟨Nat.le_of_ble_eq_true rfl, Nat.le_of_ble_eq_true rfl⟩) hI.2 (fun q _ h => ga_sub hAC hA0 hI.2 q h) (ga_sub hAC hA0 hI.2) (fun v t H1 locs1 ht hWt hpost _ _ hS => ?_) (fun x t H1 locs1 ht hWt hpost _ _ hS => (hpost.2 x rfl).elim)
            rcases hpost.1 _ rfl with ⟨z147, t_tr148, hv, c149, c149_0, c149_1, c149_2, hI1⟩ | ⟨z150, hv, c151, c151_0, c151_1, c151_2, hI1⟩
            · cases hv
              have hI : sI (dC, dI) vcl cI cJ (gsM a th t_tr148 dp zi co sh lt ts mf) A s.heap H1 locs1 := ⟨by rw [← ht]; exact hI1, hS⟩
              obtain ⟨-, ⟨o152, o153⟩, -, -, -, -, -, -, -⟩ := id c149
              clear hpost hI1 hS ht hWt
              revert hI; generalize H1 = H; generalize locs1 = locs; intro hI
              refine sv_iastr hx hb hK (sh_in adM_map hAC) hI 21 kM_21 (by omega) (by omega) (by omega) (by omega) pM_21 d_Mo_findWords_49 (fun H locs hI => ?_)
              refine sn_iinc (k := 3) hx hb d_Mo_findWords_50 hl rfl (by decide) (by decide) (by omega) (by omega) (fun ls z154 hz154 hl => ?_)
              have hl : lv_has ls 5 [(3, .int z154), (0, .ref (a 0)), (1, .int x1), (2, .int x2), (4, .int v5u_4)] := hl
              refine sn_iinc (k := 4) hx hb d_Mo_findWords_53 hl rfl (by decide) (by decide) (by omega) (by omega) (fun ls z155 hz155 hl => ?_)
              have hl : lv_has ls 5 [(4, .int z155), (3, .int z154), (0, .ref (a 0)), (1, .int x1), (2, .int x2)] := hl
              refine lv_goto (tgt := 5) hx hb d_Mo_findWords_56 (by decide) ?_
              exact j5p _ _ _ z154 z155 t_tr148 hI c149 (by omega) (by omega) (by omega) (by omega) (by omega) (by omega) (by omega) (by omega) (by omega) (lv_sub hl [2, 3, 4, 1, 0] rfl)
            · omega
        · cases hv
          have hI : sI (dC, dI) vcl cI cJ (gsM a th tr dp zi co sh lt ts mf) A s.heap H1 locs1 := ⟨by rw [← ht]; exact hI1, hS⟩
          clear hpost hI1 hS ht hWt
          revert hI; generalize H1 = H; generalize locs1 = locs; intro hI
          refine sn_if_eq (tgt := 53) hx hb d_Mo_findWords_25 (by decide) (fun b156 => ?_) (fun b156 => ?_)
          · refine sn_iinc (k := 4) hx hb d_Mo_findWords_53 hl rfl (by decide) (by decide) (by omega) (by omega) (fun ls z157 hz157 hl => ?_)
            have hl : lv_has ls 5 [(4, .int z157), (0, .ref (a 0)), (1, .int x1), (2, .int x2), (3, .int v5u_3)] := hl
            refine lv_goto (tgt := 5) hx hb d_Mo_findWords_56 (by decide) ?_
            exact j5z 24 _ _ _ v5u_3 z157 hI c137 (by omega) (by omega) (by omega) (by omega) (by omega) (by omega) (by omega) (lv_sub hl [1, 2, 3, 4, 0] rfl) (by omega)
          · omega
        · cases hv
          have hI : sI (dC, dI) vcl cI cJ (gsM a th tr dp zi co sh lt ts mf) A s.heap H1 locs1 := ⟨by rw [← ht]; exact hI1, hS⟩
          clear hpost hI1 hS ht hWt
          revert hI; generalize H1 = H; generalize locs1 = locs; intro hI
          refine sn_if_eq (tgt := 53) hx hb d_Mo_findWords_25 (by decide) (fun b158 => ?_) (fun b158 => ?_)
          · omega
          · refine lv_aload_n hx hb d_Mo_findWords_28 rfl (lv_at hl 0 rfl) ?_
            refine sv_getr (C := "StoryMachineModel") (T := T_Mo) (N := 51) hx hb hts in_Mo hown hK hI 0 kM_0 rfl 49 (by decide) (hts _ mw_1112) rfl d_Mo_findWords_29 ?_
            refine lv_iload_n hx hb d_Mo_findWords_32 rfl (lv_at hl 3 rfl) ?_
            refine lv_iload hx hb d_Mo_findWords_33 (lv_at hl 4 rfl) ?_
            refine sv_iastr hx hb hK (sh_in adM_map hAC) hI 20 kM_20 (by omega) (by omega) (by omega) (by omega) pM_20 d_Mo_findWords_35 (fun H locs hI => ?_)
            refine lv_aload_n hx hb d_Mo_findWords_36 rfl (lv_at hl 0 rfl) ?_
            refine sv_getr (C := "StoryMachineModel") (T := T_Mo) (N := 51) hx hb hts in_Mo hown hK hI 0 kM_0 rfl 50 (by decide) (hts _ mw_1113) rfl d_Mo_findWords_37 ?_
            refine lv_iload_n hx hb d_Mo_findWords_40 rfl (lv_at hl 3 rfl) ?_
            refine lv_aload_n hx hb d_Mo_findWords_41 rfl (lv_at hl 0 rfl) ?_
            refine lv_iload_n hx hb d_Mo_findWords_42 rfl (lv_at hl 1 rfl) ?_
            refine lv_iload_n hx hb d_Mo_findWords_43 rfl (lv_at hl 2 rfl) ?_
            refine lv_iload hx hb d_Mo_findWords_44 (lv_at hl 4 rfl) ?_
            refine tz_call (A1 := ga (adM a) H.size) (tz_runV (C := "StoryMachineModel") (As := [.int x1, .int x2, .int v5u_4]) (rest := [.int v5u_3, .ref (a 21)]) ⟨hx, hb, hml, hown, hts⟩ (c_Mo_lengthFrom l hfl dC dI cI cJ a H.size th tr dp zi co sh lt ts mf x1 x2 v5u_4 c139 (by omega) (by omega) (by omega) (by omega) (by omega) (by omega) (by omega) (by omega)) (tx_cb (n := 3) hts rfl rfl ⟨Nat.le_of_ble_eq_true rfl, Nat.le_of_ble_eq_true rfl⟩ (tx_code.of (hts _ mw_1468)) (hts _ mw_12) (by decide +kernel) (hts _ mw_1465)) (hts _ mw_1467) (hts _ ms_Mo_lengthFrom) ⟨tz_blind, sv_recv (q0 := 0) hts in_Mo hK hI kM_0 rfl, fun U hU hW => ⟨rfl, by rw [hU], by rw [hU]; exact hI.1, va_K.moved hW.alike hK, hst _ _ hI.2 U hU hW⟩⟩ rfl rfl hl.1 rfl (lv_room (Nat.le_of_ble_eq_true rfl)) d_Mo_findWords_46 ⟨Nat.le_of_ble_eq_true rfl, Nat.le_of_ble_eq_true rfl⟩) hI.2 (fun q _ h => ga_sub hAC hA0 hI.2 q h) (ga_sub hAC hA0 hI.2) (fun v t H1 locs1 ht hWt hpost _ _ hS => ?_) (fun x t H1 locs1 ht hWt hpost _ _ hS => (hpost.2 x rfl).elim)
            rcases hpost.1 _ rfl with ⟨z159, t_tr160, hv, c161, c161_0, c161_1, c161_2, hI1⟩ | ⟨z162, hv, c163, c163_0, c163_1, c163_2, hI1⟩
            · cases hv
              have hI : sI (dC, dI) vcl cI cJ (gsM a th t_tr160 dp zi co sh lt ts mf) A s.heap H1 locs1 := ⟨by rw [← ht]; exact hI1, hS⟩
              obtain ⟨-, ⟨o164, o165⟩, -, -, -, -, -, -, -⟩ := id c161
              clear hpost hI1 hS ht hWt
              revert hI; generalize H1 = H; generalize locs1 = locs; intro hI
              refine sv_iastr hx hb hK (sh_in adM_map hAC) hI 21 kM_21 (by omega) (by omega) (by omega) (by omega) pM_21 d_Mo_findWords_49 (fun H locs hI => ?_)
              refine sn_iinc (k := 3) hx hb d_Mo_findWords_50 hl rfl (by decide) (by decide) (by omega) (by omega) (fun ls z166 hz166 hl => ?_)
              have hl : lv_has ls 5 [(3, .int z166), (0, .ref (a 0)), (1, .int x1), (2, .int x2), (4, .int v5u_4)] := hl
              refine sn_iinc (k := 4) hx hb d_Mo_findWords_53 hl rfl (by decide) (by decide) (by omega) (by omega) (fun ls z167 hz167 hl => ?_)
              have hl : lv_has ls 5 [(4, .int z167), (3, .int z166), (0, .ref (a 0)), (1, .int x1), (2, .int x2)] := hl
              refine lv_goto (tgt := 5) hx hb d_Mo_findWords_56 (by decide) ?_
              exact j5p _ _ _ z166 z167 t_tr160 hI c161 (by omega) (by omega) (by omega) (by omega) (by omega) (by omega) (by omega) (by omega) (by omega) (lv_sub hl [2, 3, 4, 1, 0] rfl)
            · cases hv
              have hI : sI (dC, dI) vcl cI cJ (gsM a th tr dp zi co sh lt ts mf) A s.heap H1 locs1 := ⟨by rw [← ht]; exact hI1, hS⟩
              clear hpost hI1 hS ht hWt
              revert hI; generalize H1 = H; generalize locs1 = locs; intro hI
              refine sv_iastr hx hb hK (sh_in adM_map hAC) hI 21 kM_21 (by omega) (by omega) (by omega) (by omega) pM_21 d_Mo_findWords_49 (fun H locs hI => ?_)
              refine sn_iinc (k := 3) hx hb d_Mo_findWords_50 hl rfl (by decide) (by decide) (by omega) (by omega) (fun ls z168 hz168 hl => ?_)
              have hl : lv_has ls 5 [(3, .int z168), (0, .ref (a 0)), (1, .int x1), (2, .int x2), (4, .int v5u_4)] := hl
              refine sn_iinc (k := 4) hx hb d_Mo_findWords_53 hl rfl (by decide) (by decide) (by omega) (by omega) (fun ls z169 hz169 hl => ?_)
              have hl : lv_has ls 5 [(4, .int z169), (3, .int z168), (0, .ref (a 0)), (1, .int x1), (2, .int x2)] := hl
              refine lv_goto (tgt := 5) hx hb d_Mo_findWords_56 (by decide) ?_
              exact j5z 24 _ _ _ z168 z169 hI c163 (by omega) (by omega) (by omega) (by omega) (by omega) (by omega) (by omega) (lv_sub hl [2, 3, 4, 1, 0] rfl) (by omega)
  refine sn_iconst hx hb d_Mo_findWords_0 (by decide) (fun z170 hz170 => ?_)
  refine lv_istore_n (lv' := [(3, .int z170), (0, .ref (a 0)), (1, .int x1), (2, .int x2)]) hx hb d_Mo_findWords_1 rfl hl (by decide) rfl (fun ls hl => ?_)
  refine sn_iconst hx hb d_Mo_findWords_2 (by decide) (fun z171 hz171 => ?_)
  refine lv_istore (lv' := [(4, .int z171), (3, .int z170), (0, .ref (a 0)), (1, .int x1), (2, .int x2)]) hx hb d_Mo_findWords_3 hl (by decide) rfl (fun ls hl => ?_)
  exact j5u _ _ _ z170 z171 hI hok (by omega) (by omega) (by omega) (by omega) (by omega) (lv_sub hl [2, 3, 4, 1, 0] rfl)
