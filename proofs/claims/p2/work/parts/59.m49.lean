abbrev q_Mo_lengthFrom (dC : Nat → ClassId) (dI : Nat → Nat → Nat) (cI cJ : ClassId) (a : Nat → Nat) (th tr dp zi co sh lt ts : Int) (mf : Nat → Int32) (x1 : Int32) (x2 : Int32) (x3 : Int32) : Outcome → State → Prop := fun o t => (∀ v, o = .returned v → ((∃ (z : Int32) (tr_ : Int), v = some (.int z) ∧ okM th tr_ dp zi co sh lt ts mf ∧ ((-23) ≤ z.toInt) ∧ (z.toInt ≤ 24) ∧ (1 ≤ tr_) ∧ sh_I (dC, dI) vcl cI cJ (gsM a th tr_ dp zi co sh lt ts mf) t.heap) ∨ (∃ (z : Int32), v = some (.int z) ∧ okM th tr dp zi co sh lt ts mf ∧ ((-23) ≤ z.toInt) ∧ (z.toInt ≤ 24) ∧ (tr ≤ 0) ∧ sh_I (dC, dI) vcl cI cJ (gsM a th tr dp zi co sh lt ts mf) t.heap))) ∧ (∀ x, o = .threw x → (False))
def rm_Mo_lengthFrom : Room := { frames := 4, cells := 0, slots := 0, locals := 91 }
set_option maxHeartbeats 4000000 in
set_option maxRecDepth 100000 in
theorem c_Mo_lengthFrom (l : Launch) (hfl : l.flags = pinnedFlags ++ [noTraceFlag]) (dC : Nat → ClassId) (dI : Nat → Nat → Nat) (cI cJ : ClassId) (a : Nat → Nat) (sz : Nat) (th tr dp zi co sh lt ts : Int) (mf : Nat → Int32) (x1 : Int32) (x2 : Int32) (x3 : Int32) (hok : okM th tr dp zi co sh lt ts mf) (hp0 : 1 ≤ x1.toInt) (hp1 : x1.toInt ≤ 511) (hp2 : 0 ≤ x2.toInt) (hp3 : x2.toInt ≤ 24) (hp4 : 0 ≤ x3.toInt) (hp5 : x3.toInt ≤ 23) (hp6 : x1.toInt + x2.toInt ≤ 511) (hp7 : x3.toInt < x2.toInt) : tz_Met l ⟨"StoryMachineModel", "lengthFrom", "(III)I"⟩ tw_tbl rm_Mo_lengthFrom (tzP (dC, dI) vcl cI cJ (gsM a th tr dp zi co sh lt ts mf) a (adM a) [.ref (a 0), .int x1, .int x2, .int x3] sz) (tq_Q (q_Mo_lengthFrom dC dI cI cJ a th tr dp zi co sh lt ts mf x1 x2 x3) (ga (adM a) sz)) 0 0 0 0 (ga (adM a) sz) := by
  refine tz_ofW (cc := prog_13_method_65_code) (maxL := 5) (ret := (some .int)) (by decide) (tx_isM mw_1468) ?_
  intro p e s m args below meth c s₁ B hml hv
  obtain ⟨rfl, hsz, hI0, hK, hst0⟩ := hv
  have hx := B.exec
  have hb := B.bytes
  have hr := B.returns
  have hts := atoms_spec (ws := tw_tbl) B.pre
  have hown : s.vm.findClass "StoryMachineModel" = some m.cls := findClass_of_methodNamed B.named
  have hlocks := B.notSynchronized
  subst hsz
  have hst := fun (H : Heap) (locs : List Loc) (hS : va_S (ga (adM a) s.heap.size) s.heap H locs) (U : State) (hU : U.heap = H) (hW : s.WarmedH U.vm) => zS_all adM_map hI0 hst0 hS hU hW
  have hAC : ∀ q ∈ adM a, ga (adM a) s.heap.size q := fun q h => Or.inl h
  have hA0 : ∀ q, s.heap.size ≤ q → ga (adM a) s.heap.size q := fun q h => Or.inr h
  have hI : sI (dC, dI) vcl cI cJ (gsM a th tr dp zi co sh lt ts mf) (ga (adM a) s.heap.size) s.heap s.heap [] := ⟨hI0, va_S.rf⟩
  clear hI0 hst0
  have hl := lv_entry ([.ref (a 0), .int x1, .int x2, .int x3]) (n := 5) (Nat.le_of_ble_eq_true rfl)
  rw [lg_entry_eq]
  generalize (lg_sl ([.ref (a 0), .int x1, .int x2, .int x3]) ++ List.replicate (5 - (lg_sl ([.ref (a 0), .int x1, .int x2, .int x3])).length) Slot.unset).toArray = ls at hl ⊢
  have hl : lv_has ls 5 [(0, .ref (a 0)), (1, .int x1), (2, .int x2), (3, .int x3)] := hl
  generalize hZ : tz_MQ below (tq_Q (q_Mo_lengthFrom dC dI cI cJ a th tr dp zi co sh lt ts mf x1 x2 x3) (ga (adM a) s.heap.size)) ([.ref (a 0), .int x1, .int x2, .int x3] : List Value).toArray s 0 0 0 0 (ga (adM a) s.heap.size) = Z
  obtain ⟨A, hAe⟩ : ∃ A, A = ga (adM a) s.heap.size := ⟨_, rfl⟩
  rw [← hAe] at hst hAC hA0 hI hZ
  refine sv_start hI (fun H locs hI => ?_)
  obtain ⟨⟨o1, o2⟩, ⟨o3, o4⟩, ⟨o5, o6⟩, ⟨o7, o8⟩, ⟨o9, o10⟩, ⟨o11, o12⟩, ⟨o13, o14⟩, ⟨o15, o16⟩, -⟩ := id hok
  have gx1 := sn_rng x1
  have gx2 := sn_rng x2
  have gx3 := sn_rng x3
  have j20p : ∀ (n : Nat) (H : Heap) (locs : List Loc) (ls : Array Slot) (v20p_4 : Int32) (t20p_tr : Int), sI (dC, dI) vcl cI cJ (gsM a th t20p_tr dp zi co sh lt ts mf) A s.heap H locs → okM th t20p_tr dp zi co sh lt ts mf → 0 ≤ v20p_4.toInt → v20p_4.toInt ≤ 24 → 1 ≤ t20p_tr → t20p_tr ≤ 4 → lv_has ls 5 [(0, .ref (a 0)), (1, .int x1), (2, .int x2), (3, .int x3), (4, .int v20p_4)] → 24 - v20p_4.toInt < (n : Int) → W p l e (headSpec tw_tbl rm_Mo_lengthFrom).room s m ([.ref (a 0), .int x1, .int x2, .int x3] : List Value).toArray below meth c H locs 0 0 Z (F0 m 20 ls []) := by
    intro n
    induction n with
    | zero => intro H locs ls v20p_4 t20p_tr hI hok g20_0 g20_1 g20_2 g20_3 hl hme; exfalso; obtain ⟨⟨o17, o18⟩, ⟨o19, o20⟩, ⟨o21, o22⟩, ⟨o23, o24⟩, ⟨o25, o26⟩, ⟨o27, o28⟩, ⟨o29, o30⟩, ⟨o31, o32⟩, -⟩ := id hok; omega
    | succ n ih =>
      intro H locs ls v20p_4 t20p_tr hI hok g20_0 g20_1 g20_2 g20_3 hl hme
      obtain ⟨⟨o33, o34⟩, ⟨o35, o36⟩, ⟨o37, o38⟩, ⟨o39, o40⟩, ⟨o41, o42⟩, ⟨o43, o44⟩, ⟨o45, o46⟩, ⟨o47, o48⟩, -⟩ := id hok
      refine lv_iload hx hb d_Mo_lengthFrom_20 (lv_at hl 4 rfl) ?_
      refine lv_iload_n hx hb d_Mo_lengthFrom_22 rfl (lv_at hl 2 rfl) ?_
      refine sn_icmp_ge (tgt := 62) hx hb d_Mo_lengthFrom_23 (by decide) (fun b49 => ?_) (fun b49 => ?_)
      · refine lv_iload hx hb d_Mo_lengthFrom_62 (lv_at hl 4 rfl) ?_
        refine lv_iload_n hx hb d_Mo_lengthFrom_64 rfl (lv_at hl 3 rfl) ?_
        refine sn_isub hx hb d_Mo_lengthFrom_65 (by omega) (by omega) (fun z50 hz50 => ?_)
        subst hZ
        exact tz_ret (W.iret (v := z50) hx hb hr (fun t ht hW => ⟨⟨fun v9 hv9 => by cases hv9; exact (Or.inl ⟨z50, t20p_tr, rfl, hok, by omega, by omega, by omega, by rw [ht]; exact hI.1⟩), fun x9 hx9 => (by cases hx9)⟩, hI.2.F ht⟩) hI.2.2.2 d_Mo_lengthFrom_66)
      · refine lv_aload_n hx hb d_Mo_lengthFrom_26 rfl (lv_at hl 0 rfl) ?_
        refine sv_getr (C := "StoryMachineModel") (T := T_Mo) (N := 51) hx hb hts in_Mo hown hK hI 0 kM_0 rfl 1 (by decide) (hts _ mw_1064) rfl d_Mo_lengthFrom_27 ?_
        refine lv_iload_n hx hb d_Mo_lengthFrom_30 rfl (lv_at hl 1 rfl) ?_
        refine lv_iload hx hb d_Mo_lengthFrom_31 (lv_at hl 4 rfl) ?_
        refine sn_iadd hx hb d_Mo_lengthFrom_33 (by omega) (by omega) (fun z51 hz51 => ?_)
        refine sv_ialde hx hb hK hI 1 kM_1 (by omega) (by omega) d_Mo_lengthFrom_34 (fun z52 hz52 => ?_)
        have hz52r := hok.2.2.2.2.2.2.2.2 (z51.toNatClampNeg)
        rw [← hz52] at hz52r
        have hz52x : z52.toInt = (mf z51.toInt.toNat).toInt := by rw [hz52]; rfl
        refine sn_bipush hx hb d_Mo_lengthFrom_35 (by decide) (fun z53 hz53 => ?_)
        refine sn_icmp_eq (tgt := 62) hx hb d_Mo_lengthFrom_37 (by decide) (fun b54 => ?_) (fun b54 => ?_)
        · refine lv_iload hx hb d_Mo_lengthFrom_62 (lv_at hl 4 rfl) ?_
          refine lv_iload_n hx hb d_Mo_lengthFrom_64 rfl (lv_at hl 3 rfl) ?_
          refine sn_isub hx hb d_Mo_lengthFrom_65 (by omega) (by omega) (fun z55 hz55 => ?_)
          subst hZ
          exact tz_ret (W.iret (v := z55) hx hb hr (fun t ht hW => ⟨⟨fun v9 hv9 => by cases hv9; exact (Or.inl ⟨z55, t20p_tr, rfl, hok, by omega, by omega, by omega, by rw [ht]; exact hI.1⟩), fun x9 hx9 => (by cases hx9)⟩, hI.2.F ht⟩) hI.2.2.2 d_Mo_lengthFrom_66)
        · refine lv_aload_n hx hb d_Mo_lengthFrom_40 rfl (lv_at hl 0 rfl) ?_
          refine lv_aload_n hx hb d_Mo_lengthFrom_41 rfl (lv_at hl 0 rfl) ?_
          refine sv_getr (C := "StoryMachineModel") (T := T_Mo) (N := 51) hx hb hts in_Mo hown hK hI 0 kM_0 rfl 1 (by decide) (hts _ mw_1064) rfl d_Mo_lengthFrom_42 ?_
          refine lv_iload_n hx hb d_Mo_lengthFrom_45 rfl (lv_at hl 1 rfl) ?_
          refine lv_iload hx hb d_Mo_lengthFrom_46 (lv_at hl 4 rfl) ?_
          refine sn_iadd hx hb d_Mo_lengthFrom_48 (by omega) (by omega) (fun z56 hz56 => ?_)
          refine sv_ialde hx hb hK hI 1 kM_1 (by omega) (by omega) d_Mo_lengthFrom_49 (fun z57 hz57 => ?_)
          have hz57r := hok.2.2.2.2.2.2.2.2 (z56.toNatClampNeg)
          rw [← hz57] at hz57r
          have hz57x : z57.toInt = (mf z56.toInt.toNat).toInt := by rw [hz57]; rfl
          refine tz_call (A1 := ga (adM a) H.size) (tz_runV (C := "StoryMachineModel") (As := [.int z57]) (rest := []) ⟨hx, hb, hml, hown, hts⟩ (c_Mo_separates l hfl dC dI cI cJ a H.size th t20p_tr dp zi co sh lt ts mf z57 hok) (tx_cb (n := 1) hts rfl rfl ⟨Nat.le_of_ble_eq_true rfl, Nat.le_of_ble_eq_true rfl⟩ (tx_code.of (hts _ mw_1464)) (hts _ mw_12) (by decide +kernel) (hts _ mw_1461)) (hts _ mw_1463) (hts _ ms_Mo_separates) ⟨tz_blind, sv_recv (q0 := 0) hts in_Mo hK hI kM_0 rfl, fun U hU hW => ⟨rfl, by rw [hU], by rw [hU]; exact hI.1, va_K.moved hW.alike hK, hst _ _ hI.2 U hU hW⟩⟩ rfl rfl hl.1 rfl (lv_room (Nat.le_of_ble_eq_true rfl)) d_Mo_lengthFrom_50 ⟨Nat.le_of_ble_eq_true rfl, Nat.le_of_ble_eq_true rfl⟩) hI.2 (fun q _ h => ga_sub hAC hA0 hI.2 q h) (ga_sub hAC hA0 hI.2) (fun v t H1 locs1 ht hWt hpost _ _ hS => ?_) (fun x t H1 locs1 ht hWt hpost _ _ hS => (hpost.2 x rfl).elim)
          rcases hpost.1 _ rfl with ⟨z58, t_tr59, hv, c60, c60_0, c60_1, c60_2, hI1⟩ | ⟨z61, hv, c62, c62_0, c62_1, c62_2, hI1⟩
          · cases hv
            have hI : sI (dC, dI) vcl cI cJ (gsM a th t_tr59 dp zi co sh lt ts mf) A s.heap H1 locs1 := ⟨by rw [← ht]; exact hI1, hS⟩
            obtain ⟨-, ⟨o63, o64⟩, -, -, -, -, -, -, -⟩ := id c60
            clear hpost hI1 hS ht hWt
            revert hI; generalize H1 = H; generalize locs1 = locs; intro hI
            refine sn_if_ne (tgt := 62) hx hb d_Mo_lengthFrom_53 (by decide) (fun b65 => ?_) (fun b65 => ?_)
            · refine lv_iload hx hb d_Mo_lengthFrom_62 (lv_at hl 4 rfl) ?_
              refine lv_iload_n hx hb d_Mo_lengthFrom_64 rfl (lv_at hl 3 rfl) ?_
              refine sn_isub hx hb d_Mo_lengthFrom_65 (by omega) (by omega) (fun z66 hz66 => ?_)
              subst hZ
              exact tz_ret (W.iret (v := z66) hx hb hr (fun t ht hW => ⟨⟨fun v9 hv9 => by cases hv9; exact (Or.inl ⟨z66, t_tr59, rfl, c60, by omega, by omega, by omega, by rw [ht]; exact hI.1⟩), fun x9 hx9 => (by cases hx9)⟩, hI.2.F ht⟩) hI.2.2.2 d_Mo_lengthFrom_66)
            · refine sn_iinc (k := 4) hx hb d_Mo_lengthFrom_56 hl rfl (by decide) (by decide) (by omega) (by omega) (fun ls z67 hz67 hl => ?_)
              have hl : lv_has ls 5 [(4, .int z67), (0, .ref (a 0)), (1, .int x1), (2, .int x2), (3, .int x3)] := hl
              refine lv_goto (tgt := 20) hx hb d_Mo_lengthFrom_59 (by decide) ?_
              exact ih _ _ _ z67 t_tr59 hI c60 (by omega) (by omega) (by omega) (by omega) (lv_sub hl [1, 2, 3, 4, 0] rfl) (by omega)
          · omega
  have j20z : ∀ (n : Nat) (H : Heap) (locs : List Loc) (ls : Array Slot) (v20z_4 : Int32), sI (dC, dI) vcl cI cJ (gsM a th tr dp zi co sh lt ts mf) A s.heap H locs → okM th tr dp zi co sh lt ts mf → 0 ≤ v20z_4.toInt → v20z_4.toInt ≤ 24 → tr ≤ 0 → lv_has ls 5 [(0, .ref (a 0)), (1, .int x1), (2, .int x2), (3, .int x3), (4, .int v20z_4)] → 24 - v20z_4.toInt < (n : Int) → W p l e (headSpec tw_tbl rm_Mo_lengthFrom).room s m ([.ref (a 0), .int x1, .int x2, .int x3] : List Value).toArray below meth c H locs 0 0 Z (F0 m 20 ls []) := by
    intro n
    induction n with
    | zero => intro H locs ls v20z_4 hI hok g20_0 g20_1 g20_2 hl hme; exfalso; obtain ⟨⟨o68, o69⟩, ⟨o70, o71⟩, ⟨o72, o73⟩, ⟨o74, o75⟩, ⟨o76, o77⟩, ⟨o78, o79⟩, ⟨o80, o81⟩, ⟨o82, o83⟩, -⟩ := id hok; omega
    | succ n ih =>
      intro H locs ls v20z_4 hI hok g20_0 g20_1 g20_2 hl hme
      obtain ⟨⟨o84, o85⟩, ⟨o86, o87⟩, ⟨o88, o89⟩, ⟨o90, o91⟩, ⟨o92, o93⟩, ⟨o94, o95⟩, ⟨o96, o97⟩, ⟨o98, o99⟩, -⟩ := id hok
      refine lv_iload hx hb d_Mo_lengthFrom_20 (lv_at hl 4 rfl) ?_
      refine lv_iload_n hx hb d_Mo_lengthFrom_22 rfl (lv_at hl 2 rfl) ?_
      refine sn_icmp_ge (tgt := 62) hx hb d_Mo_lengthFrom_23 (by decide) (fun b100 => ?_) (fun b100 => ?_)
      · refine lv_iload hx hb d_Mo_lengthFrom_62 (lv_at hl 4 rfl) ?_
        refine lv_iload_n hx hb d_Mo_lengthFrom_64 rfl (lv_at hl 3 rfl) ?_
        refine sn_isub hx hb d_Mo_lengthFrom_65 (by omega) (by omega) (fun z101 hz101 => ?_)
        subst hZ
        exact tz_ret (W.iret (v := z101) hx hb hr (fun t ht hW => ⟨⟨fun v9 hv9 => by cases hv9; exact (Or.inr (⟨z101, rfl, hok, by omega, by omega, by omega, by rw [ht]; exact hI.1⟩)), fun x9 hx9 => (by cases hx9)⟩, hI.2.F ht⟩) hI.2.2.2 d_Mo_lengthFrom_66)
      · refine lv_aload_n hx hb d_Mo_lengthFrom_26 rfl (lv_at hl 0 rfl) ?_
        refine sv_getr (C := "StoryMachineModel") (T := T_Mo) (N := 51) hx hb hts in_Mo hown hK hI 0 kM_0 rfl 1 (by decide) (hts _ mw_1064) rfl d_Mo_lengthFrom_27 ?_
        refine lv_iload_n hx hb d_Mo_lengthFrom_30 rfl (lv_at hl 1 rfl) ?_
        refine lv_iload hx hb d_Mo_lengthFrom_31 (lv_at hl 4 rfl) ?_
        refine sn_iadd hx hb d_Mo_lengthFrom_33 (by omega) (by omega) (fun z102 hz102 => ?_)
        refine sv_ialde hx hb hK hI 1 kM_1 (by omega) (by omega) d_Mo_lengthFrom_34 (fun z103 hz103 => ?_)
        have hz103r := hok.2.2.2.2.2.2.2.2 (z102.toNatClampNeg)
        rw [← hz103] at hz103r
        have hz103x : z103.toInt = (mf z102.toInt.toNat).toInt := by rw [hz103]; rfl
        refine sn_bipush hx hb d_Mo_lengthFrom_35 (by decide) (fun z104 hz104 => ?_)
        refine sn_icmp_eq (tgt := 62) hx hb d_Mo_lengthFrom_37 (by decide) (fun b105 => ?_) (fun b105 => ?_)
        · refine lv_iload hx hb d_Mo_lengthFrom_62 (lv_at hl 4 rfl) ?_
          refine lv_iload_n hx hb d_Mo_lengthFrom_64 rfl (lv_at hl 3 rfl) ?_
          refine sn_isub hx hb d_Mo_lengthFrom_65 (by omega) (by omega) (fun z106 hz106 => ?_)
          subst hZ
          exact tz_ret (W.iret (v := z106) hx hb hr (fun t ht hW => ⟨⟨fun v9 hv9 => by cases hv9; exact (Or.inr (⟨z106, rfl, hok, by omega, by omega, by omega, by rw [ht]; exact hI.1⟩)), fun x9 hx9 => (by cases hx9)⟩, hI.2.F ht⟩) hI.2.2.2 d_Mo_lengthFrom_66)
        · refine lv_aload_n hx hb d_Mo_lengthFrom_40 rfl (lv_at hl 0 rfl) ?_
          refine lv_aload_n hx hb d_Mo_lengthFrom_41 rfl (lv_at hl 0 rfl) ?_
          refine sv_getr (C := "StoryMachineModel") (T := T_Mo) (N := 51) hx hb hts in_Mo hown hK hI 0 kM_0 rfl 1 (by decide) (hts _ mw_1064) rfl d_Mo_lengthFrom_42 ?_
          refine lv_iload_n hx hb d_Mo_lengthFrom_45 rfl (lv_at hl 1 rfl) ?_
          refine lv_iload hx hb d_Mo_lengthFrom_46 (lv_at hl 4 rfl) ?_
          refine sn_iadd hx hb d_Mo_lengthFrom_48 (by omega) (by omega) (fun z107 hz107 => ?_)
          refine sv_ialde hx hb hK hI 1 kM_1 (by omega) (by omega) d_Mo_lengthFrom_49 (fun z108 hz108 => ?_)
          have hz108r := hok.2.2.2.2.2.2.2.2 (z107.toNatClampNeg)
          rw [← hz108] at hz108r
          have hz108x : z108.toInt = (mf z107.toInt.toNat).toInt := by rw [hz108]; rfl
          refine tz_call (A1 := ga (adM a) H.size) (tz_runV (C := "StoryMachineModel") (As := [.int z108]) (rest := []) ⟨hx, hb, hml, hown, hts⟩ (c_Mo_separates l hfl dC dI cI cJ a H.size th tr dp zi co sh lt ts mf z108 hok) (tx_cb (n := 1) hts rfl rfl ⟨Nat.le_of_ble_eq_true rfl, Nat.le_of_ble_eq_true rfl⟩ (tx_code.of (hts _ mw_1464)) (hts _ mw_12) (by decide +kernel) (hts _ mw_1461)) (hts _ mw_1463) (hts _ ms_Mo_separates) ⟨tz_blind, sv_recv (q0 := 0) hts in_Mo hK hI kM_0 rfl, fun U hU hW => ⟨rfl, by rw [hU], by rw [hU]; exact hI.1, va_K.moved hW.alike hK, hst _ _ hI.2 U hU hW⟩⟩ rfl rfl hl.1 rfl (lv_room (Nat.le_of_ble_eq_true rfl)) d_Mo_lengthFrom_50 ⟨Nat.le_of_ble_eq_true rfl, Nat.le_of_ble_eq_true rfl⟩) hI.2 (fun q _ h => ga_sub hAC hA0 hI.2 q h) (ga_sub hAC hA0 hI.2) (fun v t H1 locs1 ht hWt hpost _ _ hS => ?_) (fun x t H1 locs1 ht hWt hpost _ _ hS => (hpost.2 x rfl).elim)
          rcases hpost.1 _ rfl with ⟨z109, t_tr110, hv, c111, c111_0, c111_1, c111_2, hI1⟩ | ⟨z112, hv, c113, c113_0, c113_1, c113_2, hI1⟩
          · cases hv
            have hI : sI (dC, dI) vcl cI cJ (gsM a th t_tr110 dp zi co sh lt ts mf) A s.heap H1 locs1 := ⟨by rw [← ht]; exact hI1, hS⟩
            obtain ⟨-, ⟨o114, o115⟩, -, -, -, -, -, -, -⟩ := id c111
            clear hpost hI1 hS ht hWt
            revert hI; generalize H1 = H; generalize locs1 = locs; intro hI
            refine sn_if_ne (tgt := 62) hx hb d_Mo_lengthFrom_53 (by decide) (fun b116 => ?_) (fun b116 => ?_)
            · refine lv_iload hx hb d_Mo_lengthFrom_62 (lv_at hl 4 rfl) ?_
              refine lv_iload_n hx hb d_Mo_lengthFrom_64 rfl (lv_at hl 3 rfl) ?_
              refine sn_isub hx hb d_Mo_lengthFrom_65 (by omega) (by omega) (fun z117 hz117 => ?_)
              subst hZ
              exact tz_ret (W.iret (v := z117) hx hb hr (fun t ht hW => ⟨⟨fun v9 hv9 => by cases hv9; exact (Or.inl ⟨z117, t_tr110, rfl, c111, by omega, by omega, by omega, by rw [ht]; exact hI.1⟩), fun x9 hx9 => (by cases hx9)⟩, hI.2.F ht⟩) hI.2.2.2 d_Mo_lengthFrom_66)
            · refine sn_iinc (k := 4) hx hb d_Mo_lengthFrom_56 hl rfl (by decide) (by decide) (by omega) (by omega) (fun ls z118 hz118 hl => ?_)
              have hl : lv_has ls 5 [(4, .int z118), (0, .ref (a 0)), (1, .int x1), (2, .int x2), (3, .int x3)] := hl
              refine lv_goto (tgt := 20) hx hb d_Mo_lengthFrom_59 (by decide) ?_
              exact j20p 25 _ _ _ z118 t_tr110 hI c111 (by omega) (by omega) (by omega) (by omega) (lv_sub hl [1, 2, 3, 4, 0] rfl) (by omega)
          · cases hv
            have hI : sI (dC, dI) vcl cI cJ (gsM a th tr dp zi co sh lt ts mf) A s.heap H1 locs1 := ⟨by rw [← ht]; exact hI1, hS⟩
            clear hpost hI1 hS ht hWt
            revert hI; generalize H1 = H; generalize locs1 = locs; intro hI
            refine sn_if_ne (tgt := 62) hx hb d_Mo_lengthFrom_53 (by decide) (fun b119 => ?_) (fun b119 => ?_)
            · refine lv_iload hx hb d_Mo_lengthFrom_62 (lv_at hl 4 rfl) ?_
              refine lv_iload_n hx hb d_Mo_lengthFrom_64 rfl (lv_at hl 3 rfl) ?_
              refine sn_isub hx hb d_Mo_lengthFrom_65 (by omega) (by omega) (fun z120 hz120 => ?_)
              subst hZ
              exact tz_ret (W.iret (v := z120) hx hb hr (fun t ht hW => ⟨⟨fun v9 hv9 => by cases hv9; exact (Or.inr (⟨z120, rfl, c113, by omega, by omega, by omega, by rw [ht]; exact hI.1⟩)), fun x9 hx9 => (by cases hx9)⟩, hI.2.F ht⟩) hI.2.2.2 d_Mo_lengthFrom_66)
            · refine sn_iinc (k := 4) hx hb d_Mo_lengthFrom_56 hl rfl (by decide) (by decide) (by omega) (by omega) (fun ls z121 hz121 hl => ?_)
              have hl : lv_has ls 5 [(4, .int z121), (0, .ref (a 0)), (1, .int x1), (2, .int x2), (3, .int x3)] := hl
              refine lv_goto (tgt := 20) hx hb d_Mo_lengthFrom_59 (by decide) ?_
              exact ih _ _ _ z121 hI c113 (by omega) (by omega) (by omega) (lv_sub hl [1, 2, 3, 4, 0] rfl) (by omega)
  refine lv_aload_n hx hb d_Mo_lengthFrom_0 rfl (lv_at hl 0 rfl) ?_
  refine lv_aload_n hx hb d_Mo_lengthFrom_1 rfl (lv_at hl 0 rfl) ?_
  refine sv_getr (C := "StoryMachineModel") (T := T_Mo) (N := 51) hx hb hts in_Mo hown hK hI 0 kM_0 rfl 1 (by decide) (hts _ mw_1064) rfl d_Mo_lengthFrom_2 ?_
  refine lv_iload_n hx hb d_Mo_lengthFrom_5 rfl (lv_at hl 1 rfl) ?_
  refine lv_iload_n hx hb d_Mo_lengthFrom_6 rfl (lv_at hl 3 rfl) ?_
  refine sn_iadd hx hb d_Mo_lengthFrom_7 (by omega) (by omega) (fun z122 hz122 => ?_)
  refine sv_ialde hx hb hK hI 1 kM_1 (by omega) (by omega) d_Mo_lengthFrom_8 (fun z123 hz123 => ?_)
  have hz123r := hok.2.2.2.2.2.2.2.2 (z122.toNatClampNeg)
  rw [← hz123] at hz123r
  have hz123x : z123.toInt = (mf z122.toInt.toNat).toInt := by rw [hz123]; rfl
  refine tz_call (A1 := ga (adM a) H.size) (tz_runV (C := "StoryMachineModel") (As := [.int z123]) (rest := []) ⟨hx, hb, hml, hown, hts⟩ (c_Mo_separates l hfl dC dI cI cJ a H.size th tr dp zi co sh lt ts mf z123 hok) (tx_cb (n := 1) hts rfl rfl ⟨Nat.le_of_ble_eq_true rfl, Nat.le_of_ble_eq_true rfl⟩ (tx_code.of (hts _ mw_1464)) (hts _ mw_12) (by decide +kernel) (hts _ mw_1461)) (hts _ mw_1463) (hts _ ms_Mo_separates) ⟨tz_blind, sv_recv (q0 := 0) hts in_Mo hK hI kM_0 rfl, fun U hU hW => ⟨rfl, by rw [hU], by rw [hU]; exact hI.1, va_K.moved hW.alike hK, hst _ _ hI.2 U hU hW⟩⟩ rfl rfl hl.1 rfl (lv_room (Nat.le_of_ble_eq_true rfl)) d_Mo_lengthFrom_9 ⟨Nat.le_of_ble_eq_true rfl, Nat.le_of_ble_eq_true rfl⟩) hI.2 (fun q _ h => ga_sub hAC hA0 hI.2 q h) (ga_sub hAC hA0 hI.2) (fun v t H1 locs1 ht hWt hpost _ _ hS => ?_) (fun x t H1 locs1 ht hWt hpost _ _ hS => (hpost.2 x rfl).elim)
  rcases hpost.1 _ rfl with ⟨z124, t_tr125, hv, c126, c126_0, c126_1, c126_2, hI1⟩ | ⟨z127, hv, c128, c128_0, c128_1, c128_2, hI1⟩
  · cases hv
    have hI : sI (dC, dI) vcl cI cJ (gsM a th t_tr125 dp zi co sh lt ts mf) A s.heap H1 locs1 := ⟨by rw [← ht]; exact hI1, hS⟩
    obtain ⟨-, ⟨o129, o130⟩, -, -, -, -, -, -, -⟩ := id c126
    clear hpost hI1 hS ht hWt
    revert hI; generalize H1 = H; generalize locs1 = locs; intro hI
    refine sn_if_eq (tgt := 17) hx hb d_Mo_lengthFrom_12 (by decide) (fun b131 => ?_) (fun b131 => ?_)
    · refine lv_iload_n hx hb d_Mo_lengthFrom_17 rfl (lv_at hl 3 rfl) ?_
      refine lv_istore (lv' := [(4, .int x3), (0, .ref (a 0)), (1, .int x1), (2, .int x2), (3, .int x3)]) hx hb d_Mo_lengthFrom_18 hl (by decide) rfl (fun ls hl => ?_)
      exact j20p 25 _ _ _ x3 t_tr125 hI c126 (by omega) (by omega) (by omega) (by omega) (lv_sub hl [1, 2, 3, 4, 0] rfl) (by omega)
    · refine sn_iconst hx hb d_Mo_lengthFrom_15 (by decide) (fun z132 hz132 => ?_)
      subst hZ
      exact tz_ret (W.iret (v := z132) hx hb hr (fun t ht hW => ⟨⟨fun v9 hv9 => by cases hv9; exact (Or.inl ⟨z132, t_tr125, rfl, c126, by omega, by omega, by omega, by rw [ht]; exact hI.1⟩), fun x9 hx9 => (by cases hx9)⟩, hI.2.F ht⟩) hI.2.2.2 d_Mo_lengthFrom_16)
  · cases hv
    have hI : sI (dC, dI) vcl cI cJ (gsM a th tr dp zi co sh lt ts mf) A s.heap H1 locs1 := ⟨by rw [← ht]; exact hI1, hS⟩
    clear hpost hI1 hS ht hWt
    revert hI; generalize H1 = H; generalize locs1 = locs; intro hI
    refine sn_if_eq (tgt := 17) hx hb d_Mo_lengthFrom_12 (by decide) (fun b133 => ?_) (fun b133 => ?_)
    · refine lv_iload_n hx hb d_Mo_lengthFrom_17 rfl (lv_at hl 3 rfl) ?_
      refine lv_istore (lv' := [(4, .int x3), (0, .ref (a 0)), (1, .int x1), (2, .int x2), (3, .int x3)]) hx hb d_Mo_lengthFrom_18 hl (by decide) rfl (fun ls hl => ?_)
      exact j20z 25 _ _ _ x3 hI c128 (by omega) (by omega) (by omega) (lv_sub hl [1, 2, 3, 4, 0] rfl) (by omega)
    · refine sn_iconst hx hb d_Mo_lengthFrom_15 (by decide) (fun z134 hz134 => ?_)
      subst hZ
      exact tz_ret (W.iret (v := z134) hx hb hr (fun t ht hW => ⟨⟨fun v9 hv9 => by cases hv9; exact (Or.inr (⟨z134, rfl, c128, by omega, by omega, by omega, by rw [ht]; exact hI.1⟩)), fun x9 hx9 => (by cases hx9)⟩, hI.2.F ht⟩) hI.2.2.2 d_Mo_lengthFrom_16)
abbrev q_Mo_findWords (dC : Nat → ClassId) (dI : Nat → Nat → Nat) (cI cJ : ClassId) (a : Nat → Nat) (th tr dp zi co sh lt ts : Int) (mf : Nat → Int32) (x1 : Int32) (x2 : Int32) : Outcome → State → Prop := fun o t => (∀ v, o = .returned v → ((∃ (z : Int32) (tr_ : Int), v = some (.int z) ∧ okM th tr_ dp zi co sh lt ts mf ∧ (0 ≤ z.toInt) ∧ (z.toInt ≤ 24) ∧ (1 ≤ x2.toInt) ∧ (1 ≤ tr_) ∧ sh_I (dC, dI) vcl cI cJ (gsM a th tr_ dp zi co sh lt ts mf) t.heap) ∨ (∃ (z : Int32), v = some (.int z) ∧ okM th tr dp zi co sh lt ts mf ∧ (0 ≤ z.toInt) ∧ (z.toInt ≤ 0) ∧ (x2.toInt ≤ 0) ∧ sh_I (dC, dI) vcl cI cJ (gsM a th tr dp zi co sh lt ts mf) t.heap) ∨ (∃ (z : Int32), v = some (.int z) ∧ okM th tr dp zi co sh lt ts mf ∧ (0 ≤ z.toInt) ∧ (z.toInt ≤ 24) ∧ (1 ≤ x2.toInt) ∧ (tr ≤ 0) ∧ sh_I (dC, dI) vcl cI cJ (gsM a th tr dp zi co sh lt ts mf) t.heap))) ∧ (∀ x, o = .threw x → (False))
def rm_Mo_findWords : Room := { frames := 5, cells := 0, slots := 0, locals := 115 }
set_option maxHeartbeats 4000000 in
set_option maxRecDepth 100000 in
theorem c_Mo_findWords (l : Launch) (hfl : l.flags = pinnedFlags ++ [noTraceFlag]) (dC : Nat → ClassId) (dI : Nat → Nat → Nat) (cI cJ : ClassId) (a : Nat → Nat) (sz : Nat) (th tr dp zi co sh lt ts : Int) (mf : Nat → Int32) (x1 : Int32) (x2 : Int32) (hok : okM th tr dp zi co sh lt ts mf) (hp0 : 1 ≤ x1.toInt) (hp1 : x1.toInt ≤ 511) (hp2 : 0 ≤ x2.toInt) (hp3 : x2.toInt ≤ 24) (hp4 : x1.toInt + x2.toInt ≤ 511) : tz_Met l ⟨"StoryMachineModel", "findWords", "(II)I"⟩ tw_tbl rm_Mo_findWords (tzP (dC, dI) vcl cI cJ (gsM a th tr dp zi co sh lt ts mf) a (adM a) [.ref (a 0), .int x1, .int x2] sz) (tq_Q (q_Mo_findWords dC dI cI cJ a th tr dp zi co sh lt ts mf x1 x2) (ga (adM a) sz)) 0 0 0 0 (ga (adM a) sz) := by
  refine tz_ofW (cc := prog_13_method_66_code) (maxL := 5) (ret := (some .int)) (by decide) (tx_isM mw_1456) ?_
  intro p e s m args below meth c s₁ B hml hv
  obtain ⟨rfl, hsz, hI0, hK, hst0⟩ := hv
  have hx := B.exec
  have hb := B.bytes
  have hr := B.returns
  have hts := atoms_spec (ws := tw_tbl) B.pre
  have hown : s.vm.findClass "StoryMachineModel" = some m.cls := findClass_of_methodNamed B.named
  have hlocks := B.notSynchronized
  subst hsz
  have hst := fun (H : Heap) (locs : List Loc) (hS : va_S (ga (adM a) s.heap.size) s.heap H locs) (U : State) (hU : U.heap = H) (hW : s.WarmedH U.vm) => zS_all adM_map hI0 hst0 hS hU hW
  have hAC : ∀ q ∈ adM a, ga (adM a) s.heap.size q := fun q h => Or.inl h
  have hA0 : ∀ q, s.heap.size ≤ q → ga (adM a) s.heap.size q := fun q h => Or.inr h
  have hI : sI (dC, dI) vcl cI cJ (gsM a th tr dp zi co sh lt ts mf) (ga (adM a) s.heap.size) s.heap s.heap [] := ⟨hI0, va_S.rf⟩
  clear hI0 hst0
  have hl := lv_entry ([.ref (a 0), .int x1, .int x2]) (n := 5) (Nat.le_of_ble_eq_true rfl)
  rw [lg_entry_eq]
  generalize (lg_sl ([.ref (a 0), .int x1, .int x2]) ++ List.replicate (5 - (lg_sl ([.ref (a 0), .int x1, .int x2])).length) Slot.unset).toArray = ls at hl ⊢
  have hl : lv_has ls 5 [(0, .ref (a 0)), (1, .int x1), (2, .int x2)] := hl
  generalize hZ : tz_MQ below (tq_Q (q_Mo_findWords dC dI cI cJ a th tr dp zi co sh lt ts mf x1 x2) (ga (adM a) s.heap.size)) ([.ref (a 0), .int x1, .int x2] : List Value).toArray s 0 0 0 0 (ga (adM a) s.heap.size) = Z
  obtain ⟨A, hAe⟩ : ∃ A, A = ga (adM a) s.heap.size := ⟨_, rfl⟩
  rw [← hAe] at hst hAC hA0 hI hZ
  refine sv_start hI (fun H locs hI => ?_)
  obtain ⟨⟨o1, o2⟩, ⟨o3, o4⟩, ⟨o5, o6⟩, ⟨o7, o8⟩, ⟨o9, o10⟩, ⟨o11, o12⟩, ⟨o13, o14⟩, ⟨o15, o16⟩, -⟩ := id hok
  have gx1 := sn_rng x1
  have gx2 := sn_rng x2
  have j5p : ∀ (H : Heap) (locs : List Loc) (ls : Array Slot) (v5p_3 v5p_4 : Int32) (t5p_tr : Int), sI (dC, dI) vcl cI cJ (gsM a th t5p_tr dp zi co sh lt ts mf) A s.heap H locs → okM th t5p_tr dp zi co sh lt ts mf → 0 ≤ v5p_3.toInt → v5p_3.toInt ≤ 24 → 1 ≤ v5p_4.toInt → v5p_4.toInt ≤ 24 → 1 ≤ t5p_tr → t5p_tr ≤ 4 → tr ≤ 0 → 1 ≤ x2.toInt → v5p_3.toInt ≤ v5p_4.toInt → lv_has ls 5 [(0, .ref (a 0)), (1, .int x1), (2, .int x2), (3, .int v5p_3), (4, .int v5p_4)] → W p l e (headSpec tw_tbl rm_Mo_findWords).room s m ([.ref (a 0), .int x1, .int x2] : List Value).toArray below meth c H locs 0 0 Z (F0 m 5 ls []) := by
    intro H locs ls v5p_3 v5p_4 t5p_tr hI hok g5_0 g5_1 g5_2 g5_3 g5_4 g5_5 g5_6 g5_7 g5_8 hl
    obtain ⟨⟨o17, o18⟩, ⟨o19, o20⟩, ⟨o21, o22⟩, ⟨o23, o24⟩, ⟨o25, o26⟩, ⟨o27, o28⟩, ⟨o29, o30⟩, ⟨o31, o32⟩, -⟩ := id hok
    refine lv_iload hx hb d_Mo_findWords_5 (lv_at hl 4 rfl) ?_
    refine lv_iload_n hx hb d_Mo_findWords_7 rfl (lv_at hl 2 rfl) ?_
    refine sn_icmp_ge (tgt := 59) hx hb d_Mo_findWords_8 (by decide) (fun b33 => ?_) (fun b33 => ?_)
    · refine lv_iload_n hx hb d_Mo_findWords_59 rfl (lv_at hl 3 rfl) ?_
      subst hZ
      exact tz_ret (W.iret (v := v5p_3) hx hb hr (fun t ht hW => ⟨⟨fun v9 hv9 => by cases hv9; exact (Or.inl ⟨v5p_3, t5p_tr, rfl, hok, by omega, by omega, by omega, by omega, by rw [ht]; exact hI.1⟩), fun x9 hx9 => (by cases hx9)⟩, hI.2.F ht⟩) hI.2.2.2 d_Mo_findWords_60)
    · refine lv_aload_n hx hb d_Mo_findWords_11 rfl (lv_at hl 0 rfl) ?_
      refine sv_gete (C := "StoryMachineModel") (T := T_Mo) (N := 51) hx hb hts in_Mo hown hK hI 0 kM_0 rfl 25 (by decide) (hts _ mw_1088) rfl d_Mo_findWords_12 (fun z34 hz34 => ?_)
      refine sn_if_ne (tgt := 59) hx hb d_Mo_findWords_15 (by decide) (fun b35 => ?_) (fun b35 => ?_)
      · refine lv_iload_n hx hb d_Mo_findWords_59 rfl (lv_at hl 3 rfl) ?_
        subst hZ
        exact tz_ret (W.iret (v := v5p_3) hx hb hr (fun t ht hW => ⟨⟨fun v9 hv9 => by cases hv9; exact (Or.inl ⟨v5p_3, t5p_tr, rfl, hok, by omega, by omega, by omega, by omega, by rw [ht]; exact hI.1⟩), fun x9 hx9 => (by cases hx9)⟩, hI.2.F ht⟩) hI.2.2.2 d_Mo_findWords_60)
      · omega
  have j53p : ∀ (H : Heap) (locs : List Loc) (ls : Array Slot) (v53p_3 v53p_4 : Int32) (t53p_tr : Int), sI (dC, dI) vcl cI cJ (gsM a th t53p_tr dp zi co sh lt ts mf) A s.heap H locs → okM th t53p_tr dp zi co sh lt ts mf → 0 ≤ v53p_3.toInt → v53p_3.toInt ≤ 25 → 0 ≤ v53p_4.toInt → v53p_4.toInt ≤ 23 → 1 ≤ t53p_tr → t53p_tr ≤ 4 → tr ≤ 0 → 1 ≤ x2.toInt → lv_has ls 5 [(0, .ref (a 0)), (1, .int x1), (2, .int x2), (3, .int v53p_3), (4, .int v53p_4)] → W p l e (headSpec tw_tbl rm_Mo_findWords).room s m ([.ref (a 0), .int x1, .int x2] : List Value).toArray below meth c H locs 0 0 Z (F0 m 53 ls []) := by
    intro H locs ls v53p_3 v53p_4 t53p_tr hI hok g53_0 g53_1 g53_2 g53_3 g53_4 g53_5 g53_6 g53_7 hl
    obtain ⟨⟨o36, o37⟩, ⟨o38, o39⟩, ⟨o40, o41⟩, ⟨o42, o43⟩, ⟨o44, o45⟩, ⟨o46, o47⟩, ⟨o48, o49⟩, ⟨o50, o51⟩, -⟩ := id hok
    refine sn_iinc (k := 4) hx hb d_Mo_findWords_53 hl rfl (by decide) (by decide) (by omega) (by omega) (fun ls z52 hz52 hl => ?_)
    have hl : lv_has ls 5 [(4, .int z52), (0, .ref (a 0)), (1, .int x1), (2, .int x2), (3, .int v53p_3)] := hl
    refine lv_goto (tgt := 5) hx hb d_Mo_findWords_56 (by decide) ?_
    exact j5p _ _ _ v53p_3 z52 t53p_tr hI hok (by omega) (by omega) (by omega) (by omega) (by omega) (by omega) (by omega) (by omega) (by omega) (lv_sub hl [1, 2, 3, 4, 0] rfl)
  have j5z : ∀ (n : Nat) (H : Heap) (locs : List Loc) (ls : Array Slot) (v5z_3 v5z_4 : Int32), sI (dC, dI) vcl cI cJ (gsM a th tr dp zi co sh lt ts mf) A s.heap H locs → okM th tr dp zi co sh lt ts mf → 0 ≤ v5z_3.toInt → v5z_3.toInt ≤ 24 → 1 ≤ v5z_4.toInt → v5z_4.toInt ≤ 24 → tr ≤ 0 → 1 ≤ x2.toInt → v5z_3.toInt ≤ v5z_4.toInt → lv_has ls 5 [(0, .ref (a 0)), (1, .int x1), (2, .int x2), (3, .int v5z_3), (4, .int v5z_4)] → 24 - v5z_4.toInt < (n : Int) → W p l e (headSpec tw_tbl rm_Mo_findWords).room s m ([.ref (a 0), .int x1, .int x2] : List Value).toArray below meth c H locs 0 0 Z (F0 m 5 ls []) := by
    intro n
    induction n with
    | zero => intro H locs ls v5z_3 v5z_4 hI hok g5_0 g5_1 g5_2 g5_3 g5_4 g5_5 g5_6 hl hme; exfalso; obtain ⟨⟨o53, o54⟩, ⟨o55, o56⟩, ⟨o57, o58⟩, ⟨o59, o60⟩, ⟨o61, o62⟩, ⟨o63, o64⟩, ⟨o65, o66⟩, ⟨o67, o68⟩, -⟩ := id hok; omega
    | succ n ih =>
      intro H locs ls v5z_3 v5z_4 hI hok g5_0 g5_1 g5_2 g5_3 g5_4 g5_5 g5_6 hl hme
      obtain ⟨⟨o69, o70⟩, ⟨o71, o72⟩, ⟨o73, o74⟩, ⟨o75, o76⟩, ⟨o77, o78⟩, ⟨o79, o80⟩, ⟨o81, o82⟩, ⟨o83, o84⟩, -⟩ := id hok
      have j53z : ∀ (H : Heap) (locs : List Loc) (ls : Array Slot) (v53z_3 v53z_4 : Int32), sI (dC, dI) vcl cI cJ (gsM a th tr dp zi co sh lt ts mf) A s.heap H locs → okM th tr dp zi co sh lt ts mf → 0 ≤ v53z_3.toInt → v53z_3.toInt ≤ 25 → 0 ≤ v53z_4.toInt → v53z_4.toInt ≤ 23 → tr ≤ 0 → 1 ≤ x2.toInt → lv_has ls 5 [(0, .ref (a 0)), (1, .int x1), (2, .int x2), (3, .int v53z_3), (4, .int v53z_4)] → W p l e (headSpec tw_tbl rm_Mo_findWords).room s m ([.ref (a 0), .int x1, .int x2] : List Value).toArray below meth c H locs 0 0 Z (F0 m 53 ls []) := by
        intro H locs ls v53z_3 v53z_4 hI hok g53_0 g53_1 g53_2 g53_3 g53_4 g53_5 hl
        obtain ⟨⟨o85, o86⟩, ⟨o87, o88⟩, ⟨o89, o90⟩, ⟨o91, o92⟩, ⟨o93, o94⟩, ⟨o95, o96⟩, ⟨o97, o98⟩, ⟨o99, o100⟩, -⟩ := id hok
        refine sn_iinc (k := 4) hx hb d_Mo_findWords_53 hl rfl (by decide) (by decide) (by omega) (by omega) (fun ls z101 hz101 hl => ?_)
        have hl : lv_has ls 5 [(4, .int z101), (0, .ref (a 0)), (1, .int x1), (2, .int x2), (3, .int v53z_3)] := hl
        refine lv_goto (tgt := 5) hx hb d_Mo_findWords_56 (by decide) ?_
        exact ih _ _ _ v53z_3 z101 hI hok (by omega) (by omega) (by omega) (by omega) (by omega) (by omega) (by omega) (lv_sub hl [1, 2, 3, 4, 0] rfl) (by omega)
      refine lv_iload hx hb d_Mo_findWords_5 (lv_at hl 4 rfl) ?_
      refine lv_iload_n hx hb d_Mo_findWords_7 rfl (lv_at hl 2 rfl) ?_
      refine sn_icmp_ge (tgt := 59) hx hb d_Mo_findWords_8 (by decide) (fun b102 => ?_) (fun b102 => ?_)
      · refine lv_iload_n hx hb d_Mo_findWords_59 rfl (lv_at hl 3 rfl) ?_
        subst hZ
        exact tz_ret (W.iret (v := v5z_3) hx hb hr (fun t ht hW => ⟨⟨fun v9 hv9 => by cases hv9; exact (Or.inr (Or.inr (⟨v5z_3, rfl, hok, by omega, by omega, by omega, by omega, by rw [ht]; exact hI.1⟩))), fun x9 hx9 => (by cases hx9)⟩, hI.2.F ht⟩) hI.2.2.2 d_Mo_findWords_60)
      · refine lv_aload_n hx hb d_Mo_findWords_11 rfl (lv_at hl 0 rfl) ?_
        refine sv_gete (C := "StoryMachineModel") (T := T_Mo) (N := 51) hx hb hts in_Mo hown hK hI 0 kM_0 rfl 25 (by decide) (hts _ mw_1088) rfl d_Mo_findWords_12 (fun z103 hz103 => ?_)
        refine sn_if_ne (tgt := 59) hx hb d_Mo_findWords_15 (by decide) (fun b104 => ?_) (fun b104 => ?_)
        · omega
        · refine lv_aload_n hx hb d_Mo_findWords_18 rfl (lv_at hl 0 rfl) ?_
          refine lv_iload_n hx hb d_Mo_findWords_19 rfl (lv_at hl 1 rfl) ?_
          refine lv_iload hx hb d_Mo_findWords_20 (lv_at hl 4 rfl) ?_
          refine tz_call (A1 := ga (adM a) H.size) (tz_runV (C := "StoryMachineModel") (As := [.int x1, .int v5z_4]) (rest := []) ⟨hx, hb, hml, hown, hts⟩ (c_Mo_begins l hfl dC dI cI cJ a H.size th tr dp zi co sh lt ts mf x1 v5z_4 hok (by omega) (by omega) (by omega) (by omega) (by omega)) (tx_cb (n := 2) hts rfl rfl ⟨Nat.le_of_ble_eq_true rfl, Nat.le_of_ble_eq_true rfl⟩ (tx_code.of (hts _ mw_1460)) (hts _ mw_12) (by decide +kernel) (hts _ mw_1457)) (hts _ mw_1459) (hts _ ms_Mo_begins) ⟨tz_blind, sv_recv (q0 := 0) hts in_Mo hK hI kM_0 rfl, fun U hU hW => ⟨rfl, by rw [hU], by rw [hU]; exact hI.1, va_K.moved hW.alike hK, hst _ _ hI.2 U hU hW⟩⟩ rfl rfl hl.1 rfl (lv_room (Nat.le_of_ble_eq_true rfl)) d_Mo_findWords_22 ⟨Nat.le_of_ble_eq_true rfl, Nat.le_of_ble_eq_true rfl⟩) hI.2 (fun q _ h => ga_sub hAC hA0 hI.2 q h) (ga_sub hAC hA0 hI.2) (fun v t H1 locs1 ht hWt hpost _ _ hS => ?_) (fun x t H1 locs1 ht hWt hpost _ _ hS => (hpost.2 x rfl).elim)
          rcases hpost.1 _ rfl with ⟨z105, t_tr106, hv, c107, c107_0, c107_1, c107_2, hI1⟩ | ⟨z108, t_tr109, hv, c110, c110_0, c110_1, c110_2, hI1⟩ | ⟨z111, hv, c112, c112_0, c112_1, c112_2, hI1⟩ | ⟨z113, hv, c114, c114_0, c114_1, c114_2, hI1⟩
          · cases hv
            have hI : sI (dC, dI) vcl cI cJ (gsM a th t_tr106 dp zi co sh lt ts mf) A s.heap H1 locs1 := ⟨by rw [← ht]; exact hI1, hS⟩
            obtain ⟨-, ⟨o115, o116⟩, -, -, -, -, -, -, -⟩ := id c107
            clear hpost hI1 hS ht hWt
            revert hI; generalize H1 = H; generalize locs1 = locs; intro hI
            refine sn_if_eq (tgt := 53) hx hb d_Mo_findWords_25 (by decide) (fun b117 => ?_) (fun b117 => ?_)
            · exact j53p _ _ _ v5z_3 v5z_4 t_tr106 hI c107 (by omega) (by omega) (by omega) (by omega) (by omega) (by omega) (by omega) (by omega) (lv_sub hl [0, 1, 2, 3, 4] rfl)
            · omega
          · cases hv
            have hI : sI (dC, dI) vcl cI cJ (gsM a th t_tr109 dp zi co sh lt ts mf) A s.heap H1 locs1 := ⟨by rw [← ht]; exact hI1, hS⟩
            obtain ⟨-, ⟨o118, o119⟩, -, -, -, -, -, -, -⟩ := id c110
            clear hpost hI1 hS ht hWt
            revert hI; generalize H1 = H; generalize locs1 = locs; intro hI
            refine sn_if_eq (tgt := 53) hx hb d_Mo_findWords_25 (by decide) (fun b120 => ?_) (fun b120 => ?_)
            · omega
            · refine lv_aload_n hx hb d_Mo_findWords_28 rfl (lv_at hl 0 rfl) ?_
              refine sv_getr (C := "StoryMachineModel") (T := T_Mo) (N := 51) hx hb hts in_Mo hown hK hI 0 kM_0 rfl 49 (by decide) (hts _ mw_1112) rfl d_Mo_findWords_29 ?_
              refine lv_iload_n hx hb d_Mo_findWords_32 rfl (lv_at hl 3 rfl) ?_
              refine lv_iload hx hb d_Mo_findWords_33 (lv_at hl 4 rfl) ?_
              refine sv_iastr hx hb hK (sh_in adM_map hAC) hI 20 kM_20 (by omega) (by omega) (by omega) (by omega) pM_20 d_Mo_findWords_35 (fun H locs hI => ?_)
              refine lv_aload_n hx hb d_Mo_findWords_36 rfl (lv_at hl 0 rfl) ?_
              refine sv_getr (C := "StoryMachineModel") (T := T_Mo) (N := 51) hx hb hts in_Mo hown hK hI 0 kM_0 rfl 50 (by decide) (hts _ mw_1113) rfl d_Mo_findWords_37 ?_
              refine lv_iload_n hx hb d_Mo_findWords_40 rfl (lv_at hl 3 rfl) ?_
              refine lv_aload_n hx hb d_Mo_findWords_41 rfl (lv_at hl 0 rfl) ?_
              refine lv_iload_n hx hb d_Mo_findWords_42 rfl (lv_at hl 1 rfl) ?_
              refine lv_iload_n hx hb d_Mo_findWords_43 rfl (lv_at hl 2 rfl) ?_
              refine lv_iload hx hb d_Mo_findWords_44 (lv_at hl 4 rfl) ?_
              refine tz_call (A1 := ga (adM a) H.size) (tz_runV (C := "StoryMachineModel") (As := [.int x1, .int x2, .int v5z_4]) (rest := [.int v5z_3, .ref (a 21)]) ⟨hx, hb, hml, hown, hts⟩ (c_Mo_lengthFrom l hfl dC dI cI cJ a H.size th t_tr109 dp zi co sh lt ts mf x1 x2 v5z_4 c110 (by omega) (by omega) (by omega) (by omega) (by omega) (by omega) (by omega) (by omega)) (tx_cb (n := 3) hts rfl rfl ⟨Nat.le_of_ble_eq_true rfl, Nat.le_of_ble_eq_true rfl⟩ (tx_code.of (hts _ mw_1468)) (hts _ mw_12) (by decide +kernel) (hts _ mw_1465)) (hts _ mw_1467) (hts _ ms_Mo_lengthFrom) ⟨tz_blind, sv_recv (q0 := 0) hts in_Mo hK hI kM_0 rfl, fun U hU hW => ⟨rfl, by rw [hU], by rw [hU]; exact hI.1, va_K.moved hW.alike hK, hst _ _ hI.2 U hU hW⟩⟩ rfl rfl hl.1 rfl (lv_room (Nat.le_of_ble_eq_true rfl)) d_Mo_findWords_46 ⟨Nat.le_of_ble_eq_true rfl, Nat.le_of_ble_eq_true rfl⟩) hI.2 (fun q _ h => ga_sub hAC hA0 hI.2 q h) (ga_sub hAC hA0 hI.2) (fun v t H1 locs1 ht hWt hpost _ _ hS => ?_) (fun x t H1 locs1 ht hWt hpost _ _ hS => (hpost.2 x rfl).elim)
              rcases hpost.1 _ rfl with ⟨z121, t_tr122, hv, c123, c123_0, c123_1, c123_2, hI1⟩ | ⟨z124, hv, c125, c125_0, c125_1, c125_2, hI1⟩
              · cases hv
                have hI : sI (dC, dI) vcl cI cJ (gsM a th t_tr122 dp zi co sh lt ts mf) A s.heap H1 locs1 := ⟨by rw [← ht]; exact hI1, hS⟩
                obtain ⟨-, ⟨o126, o127⟩, -, -, -, -, -, -, -⟩ := id c123
                clear hpost hI1 hS ht hWt
                revert hI; generalize H1 = H; generalize locs1 = locs; intro hI
                refine sv_iastr hx hb hK (sh_in adM_map hAC) hI 21 kM_21 (by omega) (by omega) (by omega) (by omega) pM_21 d_Mo_findWords_49 (fun H locs hI => ?_)
                refine sn_iinc (k := 3) hx hb d_Mo_findWords_50 hl rfl (by decide) (by decide) (by omega) (by omega) (fun ls z128 hz128 hl => ?_)
                have hl : lv_has ls 5 [(3, .int z128), (0, .ref (a 0)), (1, .int x1), (2, .int x2), (4, .int v5z_4)] := hl
                exact j53p _ _ _ z128 v5z_4 t_tr122 hI c123 (by omega) (by omega) (by omega) (by omega) (by omega) (by omega) (by omega) (by omega) (lv_sub hl [1, 2, 3, 0, 4] rfl)
              · omega
          · cases hv
            have hI : sI (dC, dI) vcl cI cJ (gsM a th tr dp zi co sh lt ts mf) A s.heap H1 locs1 := ⟨by rw [← ht]; exact hI1, hS⟩
            clear hpost hI1 hS ht hWt
            revert hI; generalize H1 = H; generalize locs1 = locs; intro hI
            refine sn_if_eq (tgt := 53) hx hb d_Mo_findWords_25 (by decide) (fun b129 => ?_) (fun b129 => ?_)
            · exact j53z _ _ _ v5z_3 v5z_4 hI c112 (by omega) (by omega) (by omega) (by omega) (by omega) (by omega) (lv_sub hl [0, 1, 2, 3, 4] rfl)
            · omega
          · cases hv
            have hI : sI (dC, dI) vcl cI cJ (gsM a th tr dp zi co sh lt ts mf) A s.heap H1 locs1 := ⟨by rw [← ht]; exact hI1, hS⟩
            clear hpost hI1 hS ht hWt
            revert hI; generalize H1 = H; generalize locs1 = locs; intro hI
            refine sn_if_eq (tgt := 53) hx hb d_Mo_findWords_25 (by decide) (fun b130 => ?_) (fun b130 => ?_)
            · omega
            · refine lv_aload_n hx hb d_Mo_findWords_28 rfl (lv_at hl 0 rfl) ?_
              refine sv_getr (C := "StoryMachineModel") (T := T_Mo) (N := 51) hx hb hts in_Mo hown hK hI 0 kM_0 rfl 49 (by decide) (hts _ mw_1112) rfl d_Mo_findWords_29 ?_
              refine lv_iload_n hx hb d_Mo_findWords_32 rfl (lv_at hl 3 rfl) ?_
              refine lv_iload hx hb d_Mo_findWords_33 (lv_at hl 4 rfl) ?_
              refine sv_iastr hx hb hK (sh_in adM_map hAC) hI 20 kM_20 (by omega) (by omega) (by omega) (by omega) pM_20 d_Mo_findWords_35 (fun H locs hI => ?_)
              refine lv_aload_n hx hb d_Mo_findWords_36 rfl (lv_at hl 0 rfl) ?_
              refine sv_getr (C := "StoryMachineModel") (T := T_Mo) (N := 51) hx hb hts in_Mo hown hK hI 0 kM_0 rfl 50 (by decide) (hts _ mw_1113) rfl d_Mo_findWords_37 ?_
              refine lv_iload_n hx hb d_Mo_findWords_40 rfl (lv_at hl 3 rfl) ?_
              refine lv_aload_n hx hb d_Mo_findWords_41 rfl (lv_at hl 0 rfl) ?_
              refine lv_iload_n hx hb d_Mo_findWords_42 rfl (lv_at hl 1 rfl) ?_
              refine lv_iload_n hx hb d_Mo_findWords_43 rfl (lv_at hl 2 rfl) ?_
              refine lv_iload hx hb d_Mo_findWords_44 (lv_at hl 4 rfl) ?_
              refine tz_call (A1 := ga (adM a) H.size) (tz_runV (C := "StoryMachineModel") (As := [.int x1, .int x2, .int v5z_4]) (rest := [.int v5z_3, .ref (a 21)]) ⟨hx, hb, hml, hown, hts⟩ (c_Mo_lengthFrom l hfl dC dI cI cJ a H.size th tr dp zi co sh lt ts mf x1 x2 v5z_4 c114 (by omega) (by omega) (by omega) (by omega) (by omega) (by omega) (by omega) (by omega)) (tx_cb (n := 3) hts rfl rfl ⟨Nat.le_of_ble_eq_true rfl, Nat.le_of_ble_eq_true rfl⟩ (tx_code.of (hts _ mw_1468)) (hts _ mw_12) (by decide +kernel) (hts _ mw_1465)) (hts _ mw_1467) (hts _ ms_Mo_lengthFrom) ⟨tz_blind, sv_recv (q0 := 0) hts in_Mo hK hI kM_0 rfl, fun U hU hW => ⟨rfl, by rw [hU], by rw [hU]; exact hI.1, va_K.moved hW.alike hK, hst _ _ hI.2 U hU hW⟩⟩ rfl rfl hl.1 rfl (lv_room (Nat.le_of_ble_eq_true rfl)) d_Mo_findWords_46 ⟨Nat.le_of_ble_eq_true rfl, Nat.le_of_ble_eq_true rfl⟩) hI.2 (fun q _ h => ga_sub hAC hA0 hI.2 q h) (ga_sub hAC hA0 hI.2) (fun v t H1 locs1 ht hWt hpost _ _ hS => ?_) (fun x t H1 locs1 ht hWt hpost _ _ hS => (hpost.2 x rfl).elim)
              rcases hpost.1 _ rfl with ⟨z131, t_tr132, hv, c133, c133_0, c133_1, c133_2, hI1⟩ | ⟨z134, hv, c135, c135_0, c135_1, c135_2, hI1⟩
              · cases hv
                have hI : sI (dC, dI) vcl cI cJ (gsM a th t_tr132 dp zi co sh lt ts mf) A s.heap H1 locs1 := ⟨by rw [← ht]; exact hI1, hS⟩
                obtain ⟨-, ⟨o136, o137⟩, -, -, -, -, -, -, -⟩ := id c133
                clear hpost hI1 hS ht hWt
                revert hI; generalize H1 = H; generalize locs1 = locs; intro hI
                refine sv_iastr hx hb hK (sh_in adM_map hAC) hI 21 kM_21 (by omega) (by omega) (by omega) (by omega) pM_21 d_Mo_findWords_49 (fun H locs hI => ?_)
                refine sn_iinc (k := 3) hx hb d_Mo_findWords_50 hl rfl (by decide) (by decide) (by omega) (by omega) (fun ls z138 hz138 hl => ?_)
                have hl : lv_has ls 5 [(3, .int z138), (0, .ref (a 0)), (1, .int x1), (2, .int x2), (4, .int v5z_4)] := hl
                exact j53p _ _ _ z138 v5z_4 t_tr132 hI c133 (by omega) (by omega) (by omega) (by omega) (by omega) (by omega) (by omega) (by omega) (lv_sub hl [1, 2, 3, 0, 4] rfl)
              · cases hv
                have hI : sI (dC, dI) vcl cI cJ (gsM a th tr dp zi co sh lt ts mf) A s.heap H1 locs1 := ⟨by rw [← ht]; exact hI1, hS⟩
                clear hpost hI1 hS ht hWt
                revert hI; generalize H1 = H; generalize locs1 = locs; intro hI
                refine sv_iastr hx hb hK (sh_in adM_map hAC) hI 21 kM_21 (by omega) (by omega) (by omega) (by omega) pM_21 d_Mo_findWords_49 (fun H locs hI => ?_)
                refine sn_iinc (k := 3) hx hb d_Mo_findWords_50 hl rfl (by decide) (by decide) (by omega) (by omega) (fun ls z139 hz139 hl => ?_)
                have hl : lv_has ls 5 [(3, .int z139), (0, .ref (a 0)), (1, .int x1), (2, .int x2), (4, .int v5z_4)] := hl
                exact j53z _ _ _ z139 v5z_4 hI c135 (by omega) (by omega) (by omega) (by omega) (by omega) (by omega) (lv_sub hl [1, 2, 3, 0, 4] rfl)
  have j53z : ∀ (H : Heap) (locs : List Loc) (ls : Array Slot) (v53z_3 v53z_4 : Int32), sI (dC, dI) vcl cI cJ (gsM a th tr dp zi co sh lt ts mf) A s.heap H locs → okM th tr dp zi co sh lt ts mf → 0 ≤ v53z_3.toInt → v53z_3.toInt ≤ 25 → 0 ≤ v53z_4.toInt → v53z_4.toInt ≤ 23 → tr ≤ 0 → 1 ≤ x2.toInt → lv_has ls 5 [(0, .ref (a 0)), (1, .int x1), (2, .int x2), (3, .int v53z_3), (4, .int v53z_4)] → W p l e (headSpec tw_tbl rm_Mo_findWords).room s m ([.ref (a 0), .int x1, .int x2] : List Value).toArray below meth c H locs 0 0 Z (F0 m 53 ls []) := by
    intro H locs ls v53z_3 v53z_4 hI hok g53_0 g53_1 g53_2 g53_3 g53_4 g53_5 hl
    obtain ⟨⟨o140, o141⟩, ⟨o142, o143⟩, ⟨o144, o145⟩, ⟨o146, o147⟩, ⟨o148, o149⟩, ⟨o150, o151⟩, ⟨o152, o153⟩, ⟨o154, o155⟩, -⟩ := id hok
    refine sn_iinc (k := 4) hx hb d_Mo_findWords_53 hl rfl (by decide) (by decide) (by omega) (by omega) (fun ls z156 hz156 hl => ?_)
    have hl : lv_has ls 5 [(4, .int z156), (0, .ref (a 0)), (1, .int x1), (2, .int x2), (3, .int v53z_3)] := hl
    refine lv_goto (tgt := 5) hx hb d_Mo_findWords_56 (by decide) ?_
    exact j5z 24 _ _ _ v53z_3 z156 hI hok (by omega) (by omega) (by omega) (by omega) (by omega) (by omega) (by omega) (lv_sub hl [1, 2, 3, 4, 0] rfl) (by omega)
  have j5u : ∀ (H : Heap) (locs : List Loc) (ls : Array Slot) (v5u_3 v5u_4 : Int32), sI (dC, dI) vcl cI cJ (gsM a th tr dp zi co sh lt ts mf) A s.heap H locs → okM th tr dp zi co sh lt ts mf → 0 ≤ v5u_3.toInt → v5u_3.toInt ≤ 0 → 0 ≤ v5u_4.toInt → v5u_4.toInt ≤ 0 → v5u_3.toInt ≤ v5u_4.toInt → lv_has ls 5 [(0, .ref (a 0)), (1, .int x1), (2, .int x2), (3, .int v5u_3), (4, .int v5u_4)] → W p l e (headSpec tw_tbl rm_Mo_findWords).room s m ([.ref (a 0), .int x1, .int x2] : List Value).toArray below meth c H locs 0 0 Z (F0 m 5 ls []) := by
    intro H locs ls v5u_3 v5u_4 hI hok g5_0 g5_1 g5_2 g5_3 g5_4 hl
    obtain ⟨⟨o157, o158⟩, ⟨o159, o160⟩, ⟨o161, o162⟩, ⟨o163, o164⟩, ⟨o165, o166⟩, ⟨o167, o168⟩, ⟨o169, o170⟩, ⟨o171, o172⟩, -⟩ := id hok
    refine lv_iload hx hb d_Mo_findWords_5 (lv_at hl 4 rfl) ?_
    refine lv_iload_n hx hb d_Mo_findWords_7 rfl (lv_at hl 2 rfl) ?_
    refine sn_icmp_ge (tgt := 59) hx hb d_Mo_findWords_8 (by decide) (fun b173 => ?_) (fun b173 => ?_)
    · refine lv_iload_n hx hb d_Mo_findWords_59 rfl (lv_at hl 3 rfl) ?_
      subst hZ
      exact tz_ret (W.iret (v := v5u_3) hx hb hr (fun t ht hW => ⟨⟨fun v9 hv9 => by cases hv9; exact (Or.inr (Or.inl ⟨v5u_3, rfl, hok, by omega, by omega, by omega, by rw [ht]; exact hI.1⟩)), fun x9 hx9 => (by cases hx9)⟩, hI.2.F ht⟩) hI.2.2.2 d_Mo_findWords_60)
    · refine lv_aload_n hx hb d_Mo_findWords_11 rfl (lv_at hl 0 rfl) ?_
      refine sv_gete (C := "StoryMachineModel") (T := T_Mo) (N := 51) hx hb hts in_Mo hown hK hI 0 kM_0 rfl 25 (by decide) (hts _ mw_1088) rfl d_Mo_findWords_12 (fun z174 hz174 => ?_)
      refine sn_if_ne (tgt := 59) hx hb d_Mo_findWords_15 (by decide) (fun b175 => ?_) (fun b175 => ?_)
      · refine lv_iload_n hx hb d_Mo_findWords_59 rfl (lv_at hl 3 rfl) ?_
        subst hZ
        exact tz_ret (W.iret (v := v5u_3) hx hb hr (fun t ht hW => ⟨⟨fun v9 hv9 => by cases hv9; exact (Or.inl ⟨v5u_3, tr, rfl, hok, by omega, by omega, by omega, by omega, by rw [ht]; exact hI.1⟩), fun x9 hx9 => (by cases hx9)⟩, hI.2.F ht⟩) hI.2.2.2 d_Mo_findWords_60)
      · refine lv_aload_n hx hb d_Mo_findWords_18 rfl (lv_at hl 0 rfl) ?_
        refine lv_iload_n hx hb d_Mo_findWords_19 rfl (lv_at hl 1 rfl) ?_
        refine lv_iload hx hb d_Mo_findWords_20 (lv_at hl 4 rfl) ?_
        refine tz_call (A1 := ga (adM a) H.size) (tz_runV (C := "StoryMachineModel") (As := [.int x1, .int v5u_4]) (rest := []) ⟨hx, hb, hml, hown, hts⟩ (c_Mo_begins l hfl dC dI cI cJ a H.size th tr dp zi co sh lt ts mf x1 v5u_4 hok (by omega) (by omega) (by omega) (by omega) (by omega)) (tx_cb (n := 2) hts rfl rfl ⟨Nat.le_of_ble_eq_true rfl, Nat.le_of_ble_eq_true rfl⟩ (tx_code.of (hts _ mw_1460)) (hts _ mw_12) (by decide +kernel) (hts _ mw_1457)) (hts _ mw_1459) (hts _ ms_Mo_begins) ⟨tz_blind, sv_recv (q0 := 0) hts in_Mo hK hI kM_0 rfl, fun U hU hW => ⟨rfl, by rw [hU], by rw [hU]; exact hI.1, va_K.moved hW.alike hK, hst _ _ hI.2 U hU hW⟩⟩ rfl rfl hl.1 rfl (lv_room (Nat.le_of_ble_eq_true rfl)) d_Mo_findWords_22 ⟨Nat.le_of_ble_eq_true rfl, Nat.le_of_ble_eq_true rfl⟩) hI.2 (fun q _ h => ga_sub hAC hA0 hI.2 q h) (ga_sub hAC hA0 hI.2) (fun v t H1 locs1 ht hWt hpost _ _ hS => ?_) (fun x t H1 locs1 ht hWt hpost _ _ hS => (hpost.2 x rfl).elim)
        rcases hpost.1 _ rfl with ⟨z176, t_tr177, hv, c178, c178_0, c178_1, c178_2, hI1⟩ | ⟨z179, t_tr180, hv, c181, c181_0, c181_1, c181_2, hI1⟩ | ⟨z182, hv, c183, c183_0, c183_1, c183_2, hI1⟩ | ⟨z184, hv, c185, c185_0, c185_1, c185_2, hI1⟩
        · cases hv
          have hI : sI (dC, dI) vcl cI cJ (gsM a th t_tr177 dp zi co sh lt ts mf) A s.heap H1 locs1 := ⟨by rw [← ht]; exact hI1, hS⟩
          obtain ⟨-, ⟨o186, o187⟩, -, -, -, -, -, -, -⟩ := id c178
          clear hpost hI1 hS ht hWt
          revert hI; generalize H1 = H; generalize locs1 = locs; intro hI
          refine sn_if_eq (tgt := 53) hx hb d_Mo_findWords_25 (by decide) (fun b188 => ?_) (fun b188 => ?_)
          · exact j53p _ _ _ v5u_3 v5u_4 t_tr177 hI c178 (by omega) (by omega) (by omega) (by omega) (by omega) (by omega) (by omega) (by omega) (lv_sub hl [0, 1, 2, 3, 4] rfl)
          · omega
        · cases hv
          have hI : sI (dC, dI) vcl cI cJ (gsM a th t_tr180 dp zi co sh lt ts mf) A s.heap H1 locs1 := ⟨by rw [← ht]; exact hI1, hS⟩
          obtain ⟨-, ⟨o189, o190⟩, -, -, -, -, -, -, -⟩ := id c181
          clear hpost hI1 hS ht hWt
          revert hI; generalize H1 = H; generalize locs1 = locs; intro hI
          refine sn_if_eq (tgt := 53) hx hb d_Mo_findWords_25 (by decide) (fun b191 => ?_) (fun b191 => ?_)
          · omega
          · refine lv_aload_n hx hb d_Mo_findWords_28 rfl (lv_at hl 0 rfl) ?_
            refine sv_getr (C := "StoryMachineModel") (T := T_Mo) (N := 51) hx hb hts in_Mo hown hK hI 0 kM_0 rfl 49 (by decide) (hts _ mw_1112) rfl d_Mo_findWords_29 ?_
            refine lv_iload_n hx hb d_Mo_findWords_32 rfl (lv_at hl 3 rfl) ?_
            refine lv_iload hx hb d_Mo_findWords_33 (lv_at hl 4 rfl) ?_
            refine sv_iastr hx hb hK (sh_in adM_map hAC) hI 20 kM_20 (by omega) (by omega) (by omega) (by omega) pM_20 d_Mo_findWords_35 (fun H locs hI => ?_)
            refine lv_aload_n hx hb d_Mo_findWords_36 rfl (lv_at hl 0 rfl) ?_
            refine sv_getr (C := "StoryMachineModel") (T := T_Mo) (N := 51) hx hb hts in_Mo hown hK hI 0 kM_0 rfl 50 (by decide) (hts _ mw_1113) rfl d_Mo_findWords_37 ?_
            refine lv_iload_n hx hb d_Mo_findWords_40 rfl (lv_at hl 3 rfl) ?_
            refine lv_aload_n hx hb d_Mo_findWords_41 rfl (lv_at hl 0 rfl) ?_
            refine lv_iload_n hx hb d_Mo_findWords_42 rfl (lv_at hl 1 rfl) ?_
            refine lv_iload_n hx hb d_Mo_findWords_43 rfl (lv_at hl 2 rfl) ?_
            refine lv_iload hx hb d_Mo_findWords_44 (lv_at hl 4 rfl) ?_
            refine tz_call (A1 := ga (adM a) H.size) (tz_runV (C := "StoryMachineModel") (As := [.int x1, .int x2, .int v5u_4]) (rest := [.int v5u_3, .ref (a 21)]) ⟨hx, hb, hml, hown, hts⟩ (c_Mo_lengthFrom l hfl dC dI cI cJ a H.size th t_tr180 dp zi co sh lt ts mf x1 x2 v5u_4 c181 (by omega) (by omega) (by omega) (by omega) (by omega) (by omega) (by omega) (by omega)) (tx_cb (n := 3) hts rfl rfl ⟨Nat.le_of_ble_eq_true rfl, Nat.le_of_ble_eq_true rfl⟩ (tx_code.of (hts _ mw_1468)) (hts _ mw_12) (by decide +kernel) (hts _ mw_1465)) (hts _ mw_1467) (hts _ ms_Mo_lengthFrom) ⟨tz_blind, sv_recv (q0 := 0) hts in_Mo hK hI kM_0 rfl, fun U hU hW => ⟨rfl, by rw [hU], by rw [hU]; exact hI.1, va_K.moved hW.alike hK, hst _ _ hI.2 U hU hW⟩⟩ rfl rfl hl.1 rfl (lv_room (Nat.le_of_ble_eq_true rfl)) d_Mo_findWords_46 ⟨Nat.le_of_ble_eq_true rfl, Nat.le_of_ble_eq_true rfl⟩) hI.2 (fun q _ h => ga_sub hAC hA0 hI.2 q h) (ga_sub hAC hA0 hI.2) (fun v t H1 locs1 ht hWt hpost _ _ hS => ?_) (fun x t H1 locs1 ht hWt hpost _ _ hS => (hpost.2 x rfl).elim)
            rcases hpost.1 _ rfl with ⟨z192, t_tr193, hv, c194, c194_0, c194_1, c194_2, hI1⟩ | ⟨z195, hv, c196, c196_0, c196_1, c196_2, hI1⟩
            · cases hv
              have hI : sI (dC, dI) vcl cI cJ (gsM a th t_tr193 dp zi co sh lt ts mf) A s.heap H1 locs1 := ⟨by rw [← ht]; exact hI1, hS⟩
              obtain ⟨-, ⟨o197, o198⟩, -, -, -, -, -, -, -⟩ := id c194
              clear hpost hI1 hS ht hWt
              revert hI; generalize H1 = H; generalize locs1 = locs; intro hI
              refine sv_iastr hx hb hK (sh_in adM_map hAC) hI 21 kM_21 (by omega) (by omega) (by omega) (by omega) pM_21 d_Mo_findWords_49 (fun H locs hI => ?_)
              refine sn_iinc (k := 3) hx hb d_Mo_findWords_50 hl rfl (by decide) (by decide) (by omega) (by omega) (fun ls z199 hz199 hl => ?_)
              have hl : lv_has ls 5 [(3, .int z199), (0, .ref (a 0)), (1, .int x1), (2, .int x2), (4, .int v5u_4)] := hl
              exact j53p _ _ _ z199 v5u_4 t_tr193 hI c194 (by omega) (by omega) (by omega) (by omega) (by omega) (by omega) (by omega) (by omega) (lv_sub hl [1, 2, 3, 0, 4] rfl)
            · omega
        · cases hv
          have hI : sI (dC, dI) vcl cI cJ (gsM a th tr dp zi co sh lt ts mf) A s.heap H1 locs1 := ⟨by rw [← ht]; exact hI1, hS⟩
          clear hpost hI1 hS ht hWt
          revert hI; generalize H1 = H; generalize locs1 = locs; intro hI
          refine sn_if_eq (tgt := 53) hx hb d_Mo_findWords_25 (by decide) (fun b200 => ?_) (fun b200 => ?_)
          · exact j53z _ _ _ v5u_3 v5u_4 hI c183 (by omega) (by omega) (by omega) (by omega) (by omega) (by omega) (lv_sub hl [0, 1, 2, 3, 4] rfl)
          · omega
        · cases hv
          have hI : sI (dC, dI) vcl cI cJ (gsM a th tr dp zi co sh lt ts mf) A s.heap H1 locs1 := ⟨by rw [← ht]; exact hI1, hS⟩
          clear hpost hI1 hS ht hWt
          revert hI; generalize H1 = H; generalize locs1 = locs; intro hI
          refine sn_if_eq (tgt := 53) hx hb d_Mo_findWords_25 (by decide) (fun b201 => ?_) (fun b201 => ?_)
          · omega
          · refine lv_aload_n hx hb d_Mo_findWords_28 rfl (lv_at hl 0 rfl) ?_
            refine sv_getr (C := "StoryMachineModel") (T := T_Mo) (N := 51) hx hb hts in_Mo hown hK hI 0 kM_0 rfl 49 (by decide) (hts _ mw_1112) rfl d_Mo_findWords_29 ?_
            refine lv_iload_n hx hb d_Mo_findWords_32 rfl (lv_at hl 3 rfl) ?_
            refine lv_iload hx hb d_Mo_findWords_33 (lv_at hl 4 rfl) ?_
            refine sv_iastr hx hb hK (sh_in adM_map hAC) hI 20 kM_20 (by omega) (by omega) (by omega) (by omega) pM_20 d_Mo_findWords_35 (fun H locs hI => ?_)
            refine lv_aload_n hx hb d_Mo_findWords_36 rfl (lv_at hl 0 rfl) ?_
            refine sv_getr (C := "StoryMachineModel") (T := T_Mo) (N := 51) hx hb hts in_Mo hown hK hI 0 kM_0 rfl 50 (by decide) (hts _ mw_1113) rfl d_Mo_findWords_37 ?_
            refine lv_iload_n hx hb d_Mo_findWords_40 rfl (lv_at hl 3 rfl) ?_
            refine lv_aload_n hx hb d_Mo_findWords_41 rfl (lv_at hl 0 rfl) ?_
            refine lv_iload_n hx hb d_Mo_findWords_42 rfl (lv_at hl 1 rfl) ?_
            refine lv_iload_n hx hb d_Mo_findWords_43 rfl (lv_at hl 2 rfl) ?_
            refine lv_iload hx hb d_Mo_findWords_44 (lv_at hl 4 rfl) ?_
            refine tz_call (A1 := ga (adM a) H.size) (tz_runV (C := "StoryMachineModel") (As := [.int x1, .int x2, .int v5u_4]) (rest := [.int v5u_3, .ref (a 21)]) ⟨hx, hb, hml, hown, hts⟩ (c_Mo_lengthFrom l hfl dC dI cI cJ a H.size th tr dp zi co sh lt ts mf x1 x2 v5u_4 c185 (by omega) (by omega) (by omega) (by omega) (by omega) (by omega) (by omega) (by omega)) (tx_cb (n := 3) hts rfl rfl ⟨Nat.le_of_ble_eq_true rfl, Nat.le_of_ble_eq_true rfl⟩ (tx_code.of (hts _ mw_1468)) (hts _ mw_12) (by decide +kernel) (hts _ mw_1465)) (hts _ mw_1467) (hts _ ms_Mo_lengthFrom) ⟨tz_blind, sv_recv (q0 := 0) hts in_Mo hK hI kM_0 rfl, fun U hU hW => ⟨rfl, by rw [hU], by rw [hU]; exact hI.1, va_K.moved hW.alike hK, hst _ _ hI.2 U hU hW⟩⟩ rfl rfl hl.1 rfl (lv_room (Nat.le_of_ble_eq_true rfl)) d_Mo_findWords_46 ⟨Nat.le_of_ble_eq_true rfl, Nat.le_of_ble_eq_true rfl⟩) hI.2 (fun q _ h => ga_sub hAC hA0 hI.2 q h) (ga_sub hAC hA0 hI.2) (fun v t H1 locs1 ht hWt hpost _ _ hS => ?_) (fun x t H1 locs1 ht hWt hpost _ _ hS => (hpost.2 x rfl).elim)
            rcases hpost.1 _ rfl with ⟨z202, t_tr203, hv, c204, c204_0, c204_1, c204_2, hI1⟩ | ⟨z205, hv, c206, c206_0, c206_1, c206_2, hI1⟩
            · cases hv
              have hI : sI (dC, dI) vcl cI cJ (gsM a th t_tr203 dp zi co sh lt ts mf) A s.heap H1 locs1 := ⟨by rw [← ht]; exact hI1, hS⟩
              obtain ⟨-, ⟨o207, o208⟩, -, -, -, -, -, -, -⟩ := id c204
              clear hpost hI1 hS ht hWt
              revert hI; generalize H1 = H; generalize locs1 = locs; intro hI
              refine sv_iastr hx hb hK (sh_in adM_map hAC) hI 21 kM_21 (by omega) (by omega) (by omega) (by omega) pM_21 d_Mo_findWords_49 (fun H locs hI => ?_)
              refine sn_iinc (k := 3) hx hb d_Mo_findWords_50 hl rfl (by decide) (by decide) (by omega) (by omega) (fun ls z209 hz209 hl => ?_)
              have hl : lv_has ls 5 [(3, .int z209), (0, .ref (a 0)), (1, .int x1), (2, .int x2), (4, .int v5u_4)] := hl
              exact j53p _ _ _ z209 v5u_4 t_tr203 hI c204 (by omega) (by omega) (by omega) (by omega) (by omega) (by omega) (by omega) (by omega) (lv_sub hl [1, 2, 3, 0, 4] rfl)
            · cases hv
              have hI : sI (dC, dI) vcl cI cJ (gsM a th tr dp zi co sh lt ts mf) A s.heap H1 locs1 := ⟨by rw [← ht]; exact hI1, hS⟩
              clear hpost hI1 hS ht hWt
              revert hI; generalize H1 = H; generalize locs1 = locs; intro hI
              refine sv_iastr hx hb hK (sh_in adM_map hAC) hI 21 kM_21 (by omega) (by omega) (by omega) (by omega) pM_21 d_Mo_findWords_49 (fun H locs hI => ?_)
              refine sn_iinc (k := 3) hx hb d_Mo_findWords_50 hl rfl (by decide) (by decide) (by omega) (by omega) (fun ls z210 hz210 hl => ?_)
              have hl : lv_has ls 5 [(3, .int z210), (0, .ref (a 0)), (1, .int x1), (2, .int x2), (4, .int v5u_4)] := hl
              exact j53z _ _ _ z210 v5u_4 hI c206 (by omega) (by omega) (by omega) (by omega) (by omega) (by omega) (lv_sub hl [1, 2, 3, 0, 4] rfl)
  refine sn_iconst hx hb d_Mo_findWords_0 (by decide) (fun z211 hz211 => ?_)
  refine lv_istore_n (lv' := [(3, .int z211), (0, .ref (a 0)), (1, .int x1), (2, .int x2)]) hx hb d_Mo_findWords_1 rfl hl (by decide) rfl (fun ls hl => ?_)
  refine sn_iconst hx hb d_Mo_findWords_2 (by decide) (fun z212 hz212 => ?_)
  refine lv_istore (lv' := [(4, .int z212), (3, .int z211), (0, .ref (a 0)), (1, .int x1), (2, .int x2)]) hx hb d_Mo_findWords_3 hl (by decide) rfl (fun ls hl => ?_)
  exact j5u _ _ _ z211 z212 hI hok (by omega) (by omega) (by omega) (by omega) (by omega) (lv_sub hl [2, 3, 4, 1, 0] rfl)
