abbrev q_Mo_showNumber (dC : Nat → ClassId) (dI : Nat → Nat → Nat) (cI cJ : ClassId) (a : Nat → Nat) (th tr dp zi co sh lt ts : Int) (mf : Nat → Int32) (x1 : Int32) : Outcome → State → Prop := fun o t => (∀ v, o = .returned v → ((v = none ∧ okM th tr dp zi co sh lt ts mf ∧ (1 ≤ tr) ∧ sh_I (dC, dI) vcl cI cJ (gsM a th tr dp zi co sh lt ts mf) t.heap) ∨ (v = none ∧ okM th tr dp zi co sh lt ts mf ∧ (0 ≤ x1.toInt) ∧ sh_I (dC, dI) vcl cI cJ (gsM a th tr dp zi co sh lt ts mf) t.heap) ∨ (∃ (sh_ : Int), v = none ∧ okM th tr dp zi co sh_ lt ts mf ∧ (tr ≤ 0) ∧ (1 ≤ sh_) ∧ (sh_ ≤ sh + 10010) ∧ sh_I (dC, dI) vcl cI cJ (gsM a th tr dp zi co sh_ lt ts mf) t.heap))) ∧ (∀ x, o = .threw x → (False))
def rm_Mo_showNumber : Room := { frames := 1, cells := 0, slots := 0, locals := 21 }
set_option maxHeartbeats 4000000 in
set_option maxRecDepth 100000 in
theorem c_Mo_showNumber (l : Launch) (hfl : l.flags = pinnedFlags ++ [noTraceFlag]) (dC : Nat → ClassId) (dI : Nat → Nat → Nat) (cI cJ : ClassId) (a : Nat → Nat) (sz : Nat) (th tr dp zi co sh lt ts : Int) (mf : Nat → Int32) (x1 : Int32) (hok : okM th tr dp zi co sh lt ts mf) (hp0 : (-32768) ≤ x1.toInt) (hp1 : x1.toInt ≤ 32767) (hp2 : sh ≤ 1999989990) : tz_Met l ⟨"StoryMachineModel", "showNumber", "(I)V"⟩ tw_tbl rm_Mo_showNumber (tzP (dC, dI) vcl cI cJ (gsM a th tr dp zi co sh lt ts mf) a (adM a) [.ref (a 0), .int x1] sz) (tq_Q (q_Mo_showNumber dC dI cI cJ a th tr dp zi co sh lt ts mf x1) (ga (adM a) sz)) 0 0 0 0 (ga (adM a) sz) := by
  refine tz_ofW (cc := prog_13_method_17_code) (maxL := 4) (ret := none) (by decide) (tx_isM mw_1488) ?_
  intro p e s m args below meth c s₁ B hml hv
  obtain ⟨rfl, hsz, hI0, hK, hst0⟩ := hv
  have hx := B.exec
  have hb := B.bytes
  have hr := B.returns
  have hts := atoms_spec (ws := tw_tbl) B.pre
  have hown : s.vm.findClass "StoryMachineModel" = some m.cls := findClass_of_methodNamed B.named
  have hlocks := B.notSynchronized
  subst hsz
  have hst := fun (H : Heap) (locs : List Loc) (hS : va_S (ga (adM a) s.heap.size) s.heap H locs) (U : State) (hU : U.heap = H) (hW : s.WarmedH U.vm) => zS_all adM_map hI0 hst0 hS hU hW
  have hAC : ∀ q ∈ adM a, ga (adM a) s.heap.size q := fun q h => Or.inl h
  have hA0 : ∀ q, s.heap.size ≤ q → ga (adM a) s.heap.size q := fun q h => Or.inr h
  have hI : sI (dC, dI) vcl cI cJ (gsM a th tr dp zi co sh lt ts mf) (ga (adM a) s.heap.size) s.heap s.heap [] := ⟨hI0, va_S.rf⟩
  clear hI0 hst0
  have hl := lv_entry ([.ref (a 0), .int x1]) (n := 4) (Nat.le_of_ble_eq_true rfl)
  rw [lg_entry_eq]
  generalize (lg_sl ([.ref (a 0), .int x1]) ++ List.replicate (4 - (lg_sl ([.ref (a 0), .int x1])).length) Slot.unset).toArray = ls at hl ⊢
  have hl : lv_has ls 4 [(0, .ref (a 0)), (1, .int x1)] := hl
  generalize hZ : tz_MQ below (tq_Q (q_Mo_showNumber dC dI cI cJ a th tr dp zi co sh lt ts mf x1) (ga (adM a) s.heap.size)) ([.ref (a 0), .int x1] : List Value).toArray s 0 0 0 0 (ga (adM a) s.heap.size) = Z
  obtain ⟨A, hAe⟩ : ∃ A, A = ga (adM a) s.heap.size := ⟨_, rfl⟩
  rw [← hAe] at hst hAC hA0 hI hZ
  refine sv_start hI (fun H locs hI => ?_)
  obtain ⟨⟨o1, o2⟩, ⟨o3, o4⟩, ⟨o5, o6⟩, ⟨o7, o8⟩, ⟨o9, o10⟩, ⟨o11, o12⟩, ⟨o13, o14⟩, ⟨o15, o16⟩, -⟩ := id hok
  have gx1 := sn_rng x1
  have j43p : ∀ (n : Nat) (H : Heap) (locs : List Loc) (ls : Array Slot) (v43p_2 v43p_3 : Int32), sI (dC, dI) vcl cI cJ (gsM a th tr dp zi co sh lt ts mf) A s.heap H locs → okM th tr dp zi co sh lt ts mf → 0 ≤ v43p_2.toInt → v43p_2.toInt ≤ 32768 → 0 ≤ v43p_3.toInt → v43p_3.toInt ≤ 10000 → 1 ≤ tr → sh + v43p_3.toInt ≤ sh + 10001 → lv_has ls 4 [(0, .ref (a 0)), (1, .int x1), (2, .int v43p_2), (3, .int v43p_3)] → v43p_3.toInt < (n : Int) → W p l e (headSpec tw_tbl rm_Mo_showNumber).room s m ([.ref (a 0), .int x1] : List Value).toArray below meth c H locs 0 0 Z (F0 m 43 ls []) := by
    intro n
    induction n with
    | zero => intro H locs ls v43p_2 v43p_3 hI hok g43_0 g43_1 g43_2 g43_3 g43_4 g43_5 hl hme; exfalso; obtain ⟨⟨o17, o18⟩, ⟨o19, o20⟩, ⟨o21, o22⟩, ⟨o23, o24⟩, ⟨o25, o26⟩, ⟨o27, o28⟩, ⟨o29, o30⟩, ⟨o31, o32⟩, -⟩ := id hok; omega
    | succ n ih =>
      intro H locs ls v43p_2 v43p_3 hI hok g43_0 g43_1 g43_2 g43_3 g43_4 g43_5 hl hme
      obtain ⟨⟨o33, o34⟩, ⟨o35, o36⟩, ⟨o37, o38⟩, ⟨o39, o40⟩, ⟨o41, o42⟩, ⟨o43, o44⟩, ⟨o45, o46⟩, ⟨o47, o48⟩, -⟩ := id hok
      refine lv_iload_n hx hb d_Mo_showNumber_43 rfl (lv_at hl 3 rfl) ?_
      refine sn_if_le (tgt := 68) hx hb d_Mo_showNumber_44 (by decide) (fun b49 => ?_) (fun b49 => ?_)
      · subst hZ
        exact tz_ret (W.vret hx hb hr (fun t ht hW => ⟨⟨fun v9 hv9 => by cases hv9; exact (Or.inl ⟨rfl, hok, by omega, by rw [ht]; exact hI.1⟩), fun x9 hx9 => (by cases hx9)⟩, hI.2.F ht⟩) hI.2.2.2 d_Mo_showNumber_68)
      · refine lv_aload_n hx hb d_Mo_showNumber_47 rfl (lv_at hl 0 rfl) ?_
        refine sn_bipush hx hb d_Mo_showNumber_48 (by decide) (fun z50 hz50 => ?_)
        refine lv_iload_n hx hb d_Mo_showNumber_50 rfl (lv_at hl 2 rfl) ?_
        refine lv_iload_n hx hb d_Mo_showNumber_51 rfl (lv_at hl 3 rfl) ?_
        refine sn_idivT hx hb d_Mo_showNumber_52 (by omega) (fun z51 hz51a hz51b => ?_)
        refine sn_bipush hx hb d_Mo_showNumber_53 (by decide) (fun z52 hz52 => ?_)
        refine sn_iremT hx hb d_Mo_showNumber_55 (by omega) (fun z53 hz53a hz53b => ?_)
        refine sn_iaddT hx hb d_Mo_showNumber_56 (fun z54 hz54a hz54b => ?_)
        refine tz_call (A1 := ga (adM a) H.size) (tz_runV (C := "StoryMachineModel") (As := [.int z54]) (rest := []) ⟨hx, hb, hml, hown, hts⟩ (c_Mo_show l hfl dC dI cI cJ a H.size th tr dp zi co sh lt ts mf z54 hok (by omega)) (tx_cb (n := 1) hts rfl rfl ⟨Nat.le_of_ble_eq_true rfl, Nat.le_of_ble_eq_true rfl⟩ (tx_code.of (hts _ mw_1410)) (hts _ mw_12) (by decide +kernel) (hts _ mw_1407)) (hts _ mw_1409) (hts _ ms_Mo_show) ⟨tz_blind, sv_recv (q0 := 0) hts in_Mo hK hI kM_0 rfl, fun U hU hW => ⟨rfl, by rw [hU], by rw [hU]; exact hI.1, va_K.moved hW.alike hK, hst _ _ hI.2 U hU hW⟩⟩ rfl rfl hl.1 rfl (lv_room (Nat.le_of_ble_eq_true rfl)) d_Mo_showNumber_57 ⟨Nat.le_of_ble_eq_true rfl, Nat.le_of_ble_eq_true rfl⟩) hI.2 (fun q _ h => ga_sub hAC hA0 hI.2 q h) (ga_sub hAC hA0 hI.2) (fun v t H1 locs1 ht hWt hpost _ _ hS => ?_) (fun x t H1 locs1 ht hWt hpost _ _ hS => (hpost.2 x rfl).elim)
        rcases hpost.1 _ rfl with ⟨hv, c55, c55_0, hI1⟩ | ⟨t_sh56, hv, c57, c57_0, c57_1, c57_2, hI1⟩
        · cases hv
          have hI : sI (dC, dI) vcl cI cJ (gsM a th tr dp zi co sh lt ts mf) A s.heap H1 locs1 := ⟨by rw [← ht]; exact hI1, hS⟩
          clear hpost hI1 hS ht hWt
          revert hI; generalize H1 = H; generalize locs1 = locs; intro hI
          refine lv_iload_n hx hb d_Mo_showNumber_60 rfl (lv_at hl 3 rfl) ?_
          refine sn_bipush hx hb d_Mo_showNumber_61 (by decide) (fun z58 hz58 => ?_)
          refine sn_idiv (k := 10) hx hb d_Mo_showNumber_63 (by omega) (by omega) (by omega) (fun z59 hz59 => ?_)
          refine lv_istore_n (lv' := [(3, .int z59), (0, .ref (a 0)), (1, .int x1), (2, .int v43p_2)]) hx hb d_Mo_showNumber_64 rfl hl (by decide) rfl (fun ls hl => ?_)
          refine lv_goto (tgt := 43) hx hb d_Mo_showNumber_65 (by decide) ?_
          exact ih _ _ _ v43p_2 z59 hI c55 (by omega) (by omega) (by omega) (by omega) (by omega) (by omega) (lv_sub hl [1, 2, 3, 0] rfl) (by omega)
        · omega
  have j43z : ∀ (n : Nat) (H : Heap) (locs : List Loc) (ls : Array Slot) (v43z_2 v43z_3 : Int32) (t43z_sh : Int), sI (dC, dI) vcl cI cJ (gsM a th tr dp zi co t43z_sh lt ts mf) A s.heap H locs → okM th tr dp zi co t43z_sh lt ts mf → 0 ≤ v43z_2.toInt → v43z_2.toInt ≤ 32768 → 0 ≤ v43z_3.toInt → v43z_3.toInt ≤ 10000 → 1 ≤ t43z_sh → t43z_sh ≤ 2000000000 → tr ≤ 0 → t43z_sh + v43z_3.toInt ≤ sh + 10001 → lv_has ls 4 [(0, .ref (a 0)), (1, .int x1), (2, .int v43z_2), (3, .int v43z_3)] → v43z_3.toInt < (n : Int) → W p l e (headSpec tw_tbl rm_Mo_showNumber).room s m ([.ref (a 0), .int x1] : List Value).toArray below meth c H locs 0 0 Z (F0 m 43 ls []) := by
    intro n
    induction n with
    | zero => intro H locs ls v43z_2 v43z_3 t43z_sh hI hok g43_0 g43_1 g43_2 g43_3 g43_4 g43_5 g43_6 g43_7 hl hme; exfalso; obtain ⟨⟨o60, o61⟩, ⟨o62, o63⟩, ⟨o64, o65⟩, ⟨o66, o67⟩, ⟨o68, o69⟩, ⟨o70, o71⟩, ⟨o72, o73⟩, ⟨o74, o75⟩, -⟩ := id hok; omega
    | succ n ih =>
      intro H locs ls v43z_2 v43z_3 t43z_sh hI hok g43_0 g43_1 g43_2 g43_3 g43_4 g43_5 g43_6 g43_7 hl hme
      obtain ⟨⟨o76, o77⟩, ⟨o78, o79⟩, ⟨o80, o81⟩, ⟨o82, o83⟩, ⟨o84, o85⟩, ⟨o86, o87⟩, ⟨o88, o89⟩, ⟨o90, o91⟩, -⟩ := id hok
      refine lv_iload_n hx hb d_Mo_showNumber_43 rfl (lv_at hl 3 rfl) ?_
      refine sn_if_le (tgt := 68) hx hb d_Mo_showNumber_44 (by decide) (fun b92 => ?_) (fun b92 => ?_)
      · subst hZ
        exact tz_ret (W.vret hx hb hr (fun t ht hW => ⟨⟨fun v9 hv9 => by cases hv9; exact (Or.inr (Or.inr (⟨t43z_sh, rfl, hok, by omega, by omega, by omega, by rw [ht]; exact hI.1⟩))), fun x9 hx9 => (by cases hx9)⟩, hI.2.F ht⟩) hI.2.2.2 d_Mo_showNumber_68)
      · refine lv_aload_n hx hb d_Mo_showNumber_47 rfl (lv_at hl 0 rfl) ?_
        refine sn_bipush hx hb d_Mo_showNumber_48 (by decide) (fun z93 hz93 => ?_)
        refine lv_iload_n hx hb d_Mo_showNumber_50 rfl (lv_at hl 2 rfl) ?_
        refine lv_iload_n hx hb d_Mo_showNumber_51 rfl (lv_at hl 3 rfl) ?_
        refine sn_idivT hx hb d_Mo_showNumber_52 (by omega) (fun z94 hz94a hz94b => ?_)
        refine sn_bipush hx hb d_Mo_showNumber_53 (by decide) (fun z95 hz95 => ?_)
        refine sn_iremT hx hb d_Mo_showNumber_55 (by omega) (fun z96 hz96a hz96b => ?_)
        refine sn_iaddT hx hb d_Mo_showNumber_56 (fun z97 hz97a hz97b => ?_)
        refine tz_call (A1 := ga (adM a) H.size) (tz_runV (C := "StoryMachineModel") (As := [.int z97]) (rest := []) ⟨hx, hb, hml, hown, hts⟩ (c_Mo_show l hfl dC dI cI cJ a H.size th tr dp zi co t43z_sh lt ts mf z97 hok (by omega)) (tx_cb (n := 1) hts rfl rfl ⟨Nat.le_of_ble_eq_true rfl, Nat.le_of_ble_eq_true rfl⟩ (tx_code.of (hts _ mw_1410)) (hts _ mw_12) (by decide +kernel) (hts _ mw_1407)) (hts _ mw_1409) (hts _ ms_Mo_show) ⟨tz_blind, sv_recv (q0 := 0) hts in_Mo hK hI kM_0 rfl, fun U hU hW => ⟨rfl, by rw [hU], by rw [hU]; exact hI.1, va_K.moved hW.alike hK, hst _ _ hI.2 U hU hW⟩⟩ rfl rfl hl.1 rfl (lv_room (Nat.le_of_ble_eq_true rfl)) d_Mo_showNumber_57 ⟨Nat.le_of_ble_eq_true rfl, Nat.le_of_ble_eq_true rfl⟩) hI.2 (fun q _ h => ga_sub hAC hA0 hI.2 q h) (ga_sub hAC hA0 hI.2) (fun v t H1 locs1 ht hWt hpost _ _ hS => ?_) (fun x t H1 locs1 ht hWt hpost _ _ hS => (hpost.2 x rfl).elim)
        rcases hpost.1 _ rfl with ⟨hv, c98, c98_0, hI1⟩ | ⟨t_sh99, hv, c100, c100_0, c100_1, c100_2, hI1⟩
        · omega
        · cases hv
          have hI : sI (dC, dI) vcl cI cJ (gsM a th tr dp zi co t_sh99 lt ts mf) A s.heap H1 locs1 := ⟨by rw [← ht]; exact hI1, hS⟩
          obtain ⟨-, -, -, -, -, ⟨o101, o102⟩, -, -, -⟩ := id c100
          clear hpost hI1 hS ht hWt
          revert hI; generalize H1 = H; generalize locs1 = locs; intro hI
          refine lv_iload_n hx hb d_Mo_showNumber_60 rfl (lv_at hl 3 rfl) ?_
          refine sn_bipush hx hb d_Mo_showNumber_61 (by decide) (fun z103 hz103 => ?_)
          refine sn_idiv (k := 10) hx hb d_Mo_showNumber_63 (by omega) (by omega) (by omega) (fun z104 hz104 => ?_)
          refine lv_istore_n (lv' := [(3, .int z104), (0, .ref (a 0)), (1, .int x1), (2, .int v43z_2)]) hx hb d_Mo_showNumber_64 rfl hl (by decide) rfl (fun ls hl => ?_)
          refine lv_goto (tgt := 43) hx hb d_Mo_showNumber_65 (by decide) ?_
          exact ih _ _ _ v43z_2 z104 t_sh99 hI c100 (by omega) (by omega) (by omega) (by omega) (by omega) (by omega) (by omega) (by omega) (lv_sub hl [1, 2, 3, 0] rfl) (by omega)
  have j43u : ∀ (H : Heap) (locs : List Loc) (ls : Array Slot) (v43u_3 : Int32), sI (dC, dI) vcl cI cJ (gsM a th tr dp zi co sh lt ts mf) A s.heap H locs → okM th tr dp zi co sh lt ts mf → 0 ≤ v43u_3.toInt → v43u_3.toInt ≤ 10000 → 0 ≤ x1.toInt → sh + v43u_3.toInt ≤ sh + 10001 → lv_has ls 4 [(0, .ref (a 0)), (1, .int x1), (2, .int x1), (3, .int v43u_3)] → W p l e (headSpec tw_tbl rm_Mo_showNumber).room s m ([.ref (a 0), .int x1] : List Value).toArray below meth c H locs 0 0 Z (F0 m 43 ls []) := by
    intro H locs ls v43u_3 hI hok g43_0 g43_1 g43_2 g43_3 hl
    obtain ⟨⟨o105, o106⟩, ⟨o107, o108⟩, ⟨o109, o110⟩, ⟨o111, o112⟩, ⟨o113, o114⟩, ⟨o115, o116⟩, ⟨o117, o118⟩, ⟨o119, o120⟩, -⟩ := id hok
    refine lv_iload_n hx hb d_Mo_showNumber_43 rfl (lv_at hl 3 rfl) ?_
    refine sn_if_le (tgt := 68) hx hb d_Mo_showNumber_44 (by decide) (fun b121 => ?_) (fun b121 => ?_)
    · subst hZ
      exact tz_ret (W.vret hx hb hr (fun t ht hW => ⟨⟨fun v9 hv9 => by cases hv9; exact (Or.inr (Or.inl ⟨rfl, hok, by omega, by rw [ht]; exact hI.1⟩)), fun x9 hx9 => (by cases hx9)⟩, hI.2.F ht⟩) hI.2.2.2 d_Mo_showNumber_68)
    · refine lv_aload_n hx hb d_Mo_showNumber_47 rfl (lv_at hl 0 rfl) ?_
      refine sn_bipush hx hb d_Mo_showNumber_48 (by decide) (fun z122 hz122 => ?_)
      refine lv_iload_n hx hb d_Mo_showNumber_50 rfl (lv_at hl 2 rfl) ?_
      refine lv_iload_n hx hb d_Mo_showNumber_51 rfl (lv_at hl 3 rfl) ?_
      refine sn_idivT hx hb d_Mo_showNumber_52 (by omega) (fun z123 hz123a hz123b => ?_)
      refine sn_bipush hx hb d_Mo_showNumber_53 (by decide) (fun z124 hz124 => ?_)
      refine sn_iremT hx hb d_Mo_showNumber_55 (by omega) (fun z125 hz125a hz125b => ?_)
      refine sn_iaddT hx hb d_Mo_showNumber_56 (fun z126 hz126a hz126b => ?_)
      refine tz_call (A1 := ga (adM a) H.size) (tz_runV (C := "StoryMachineModel") (As := [.int z126]) (rest := []) ⟨hx, hb, hml, hown, hts⟩ (c_Mo_show l hfl dC dI cI cJ a H.size th tr dp zi co sh lt ts mf z126 hok (by omega)) (tx_cb (n := 1) hts rfl rfl ⟨Nat.le_of_ble_eq_true rfl, Nat.le_of_ble_eq_true rfl⟩ (tx_code.of (hts _ mw_1410)) (hts _ mw_12) (by decide +kernel) (hts _ mw_1407)) (hts _ mw_1409) (hts _ ms_Mo_show) ⟨tz_blind, sv_recv (q0 := 0) hts in_Mo hK hI kM_0 rfl, fun U hU hW => ⟨rfl, by rw [hU], by rw [hU]; exact hI.1, va_K.moved hW.alike hK, hst _ _ hI.2 U hU hW⟩⟩ rfl rfl hl.1 rfl (lv_room (Nat.le_of_ble_eq_true rfl)) d_Mo_showNumber_57 ⟨Nat.le_of_ble_eq_true rfl, Nat.le_of_ble_eq_true rfl⟩) hI.2 (fun q _ h => ga_sub hAC hA0 hI.2 q h) (ga_sub hAC hA0 hI.2) (fun v t H1 locs1 ht hWt hpost _ _ hS => ?_) (fun x t H1 locs1 ht hWt hpost _ _ hS => (hpost.2 x rfl).elim)
      rcases hpost.1 _ rfl with ⟨hv, c127, c127_0, hI1⟩ | ⟨t_sh128, hv, c129, c129_0, c129_1, c129_2, hI1⟩
      · cases hv
        have hI : sI (dC, dI) vcl cI cJ (gsM a th tr dp zi co sh lt ts mf) A s.heap H1 locs1 := ⟨by rw [← ht]; exact hI1, hS⟩
        clear hpost hI1 hS ht hWt
        revert hI; generalize H1 = H; generalize locs1 = locs; intro hI
        refine lv_iload_n hx hb d_Mo_showNumber_60 rfl (lv_at hl 3 rfl) ?_
        refine sn_bipush hx hb d_Mo_showNumber_61 (by decide) (fun z130 hz130 => ?_)
        refine sn_idiv (k := 10) hx hb d_Mo_showNumber_63 (by omega) (by omega) (by omega) (fun z131 hz131 => ?_)
        refine lv_istore_n (lv' := [(3, .int z131), (0, .ref (a 0)), (1, .int x1), (2, .int x1)]) hx hb d_Mo_showNumber_64 rfl hl (by decide) rfl (fun ls hl => ?_)
        refine lv_goto (tgt := 43) hx hb d_Mo_showNumber_65 (by decide) ?_
        exact j43p 10001 _ _ _ x1 z131 hI c127 (by omega) (by omega) (by omega) (by omega) (by omega) (by omega) (lv_sub hl [1, 2, 3, 0] rfl) (by omega)
      · cases hv
        have hI : sI (dC, dI) vcl cI cJ (gsM a th tr dp zi co t_sh128 lt ts mf) A s.heap H1 locs1 := ⟨by rw [← ht]; exact hI1, hS⟩
        obtain ⟨-, -, -, -, -, ⟨o132, o133⟩, -, -, -⟩ := id c129
        clear hpost hI1 hS ht hWt
        revert hI; generalize H1 = H; generalize locs1 = locs; intro hI
        refine lv_iload_n hx hb d_Mo_showNumber_60 rfl (lv_at hl 3 rfl) ?_
        refine sn_bipush hx hb d_Mo_showNumber_61 (by decide) (fun z134 hz134 => ?_)
        refine sn_idiv (k := 10) hx hb d_Mo_showNumber_63 (by omega) (by omega) (by omega) (fun z135 hz135 => ?_)
        refine lv_istore_n (lv' := [(3, .int z135), (0, .ref (a 0)), (1, .int x1), (2, .int x1)]) hx hb d_Mo_showNumber_64 rfl hl (by decide) rfl (fun ls hl => ?_)
        refine lv_goto (tgt := 43) hx hb d_Mo_showNumber_65 (by decide) ?_
        exact j43z 10001 _ _ _ x1 z135 t_sh128 hI c129 (by omega) (by omega) (by omega) (by omega) (by omega) (by omega) (by omega) (by omega) (lv_sub hl [1, 2, 3, 0] rfl) (by omega)
  have j25u : ∀ (n : Nat) (H : Heap) (locs : List Loc) (ls : Array Slot) (v25u_3 : Int32), sI (dC, dI) vcl cI cJ (gsM a th tr dp zi co sh lt ts mf) A s.heap H locs → okM th tr dp zi co sh lt ts mf → 0 ≤ v25u_3.toInt → v25u_3.toInt ≤ 10000 → 0 ≤ x1.toInt → sh ≤ sh + 1 → lv_has ls 4 [(0, .ref (a 0)), (1, .int x1), (2, .int x1), (3, .int v25u_3)] → v25u_3.toInt < (n : Int) → W p l e (headSpec tw_tbl rm_Mo_showNumber).room s m ([.ref (a 0), .int x1] : List Value).toArray below meth c H locs 0 0 Z (F0 m 25 ls []) := by
    intro n
    induction n with
    | zero => intro H locs ls v25u_3 hI hok g25_0 g25_1 g25_2 g25_3 hl hme; exfalso; obtain ⟨⟨o136, o137⟩, ⟨o138, o139⟩, ⟨o140, o141⟩, ⟨o142, o143⟩, ⟨o144, o145⟩, ⟨o146, o147⟩, ⟨o148, o149⟩, ⟨o150, o151⟩, -⟩ := id hok; omega
    | succ n ih =>
      intro H locs ls v25u_3 hI hok g25_0 g25_1 g25_2 g25_3 hl hme
      obtain ⟨⟨o152, o153⟩, ⟨o154, o155⟩, ⟨o156, o157⟩, ⟨o158, o159⟩, ⟨o160, o161⟩, ⟨o162, o163⟩, ⟨o164, o165⟩, ⟨o166, o167⟩, -⟩ := id hok
      refine lv_iload_n hx hb d_Mo_showNumber_25 rfl (lv_at hl 3 rfl) ?_
      refine sn_iconst hx hb d_Mo_showNumber_26 (by decide) (fun z168 hz168 => ?_)
      refine sn_icmp_le (tgt := 43) hx hb d_Mo_showNumber_27 (by decide) (fun b169 => ?_) (fun b169 => ?_)
      · exact j43u _ _ _ v25u_3 hI hok (by omega) (by omega) (by omega) (by omega) (lv_sub hl [0, 1, 2, 3] rfl)
      · refine lv_iload_n hx hb d_Mo_showNumber_30 rfl (lv_at hl 3 rfl) ?_
        refine lv_iload_n hx hb d_Mo_showNumber_31 rfl (lv_at hl 2 rfl) ?_
        refine sn_icmp_le (tgt := 43) hx hb d_Mo_showNumber_32 (by decide) (fun b170 => ?_) (fun b170 => ?_)
        · exact j43u _ _ _ v25u_3 hI hok (by omega) (by omega) (by omega) (by omega) (lv_sub hl [0, 1, 2, 3] rfl)
        · refine lv_iload_n hx hb d_Mo_showNumber_35 rfl (lv_at hl 3 rfl) ?_
          refine sn_bipush hx hb d_Mo_showNumber_36 (by decide) (fun z171 hz171 => ?_)
          refine sn_idiv (k := 10) hx hb d_Mo_showNumber_38 (by omega) (by omega) (by omega) (fun z172 hz172 => ?_)
          refine lv_istore_n (lv' := [(3, .int z172), (0, .ref (a 0)), (1, .int x1), (2, .int x1)]) hx hb d_Mo_showNumber_39 rfl hl (by decide) rfl (fun ls hl => ?_)
          refine lv_goto (tgt := 25) hx hb d_Mo_showNumber_40 (by decide) ?_
          exact ih _ _ _ z172 hI hok (by omega) (by omega) (by omega) (by omega) (lv_sub hl [1, 2, 3, 0] rfl) (by omega)
  have j10u : ∀ (H : Heap) (locs : List Loc) (ls : Array Slot), sI (dC, dI) vcl cI cJ (gsM a th tr dp zi co sh lt ts mf) A s.heap H locs → okM th tr dp zi co sh lt ts mf → 0 ≤ x1.toInt → sh ≤ sh + 1 → lv_has ls 4 [(0, .ref (a 0)), (1, .int x1)] → W p l e (headSpec tw_tbl rm_Mo_showNumber).room s m ([.ref (a 0), .int x1] : List Value).toArray below meth c H locs 0 0 Z (F0 m 10 ls []) := by
    intro H locs ls hI hok g10_0 g10_1 hl
    obtain ⟨⟨o173, o174⟩, ⟨o175, o176⟩, ⟨o177, o178⟩, ⟨o179, o180⟩, ⟨o181, o182⟩, ⟨o183, o184⟩, ⟨o185, o186⟩, ⟨o187, o188⟩, -⟩ := id hok
    refine lv_iload_n hx hb d_Mo_showNumber_10 rfl (lv_at hl 1 rfl) ?_
    refine sn_if_ge (tgt := 19) hx hb d_Mo_showNumber_11 (by decide) (fun b189 => ?_) (fun b189 => ?_)
    · refine lv_iload_n hx hb d_Mo_showNumber_19 rfl (lv_at hl 1 rfl) ?_
      refine lv_istore_n (lv' := [(2, .int x1), (0, .ref (a 0)), (1, .int x1)]) hx hb d_Mo_showNumber_20 rfl hl (by decide) rfl (fun ls hl => ?_)
      refine sn_sipush hx hb d_Mo_showNumber_21 (by decide) (fun z190 hz190 => ?_)
      refine lv_istore_n (lv' := [(3, .int z190), (2, .int x1), (0, .ref (a 0)), (1, .int x1)]) hx hb d_Mo_showNumber_24 rfl hl (by decide) rfl (fun ls hl => ?_)
      exact j25u 10001 _ _ _ z190 hI hok (by omega) (by omega) (by omega) (by omega) (lv_sub hl [2, 3, 1, 0] rfl) (by omega)
    · omega
  have j25p : ∀ (n : Nat) (H : Heap) (locs : List Loc) (ls : Array Slot) (v25p_2 v25p_3 : Int32), sI (dC, dI) vcl cI cJ (gsM a th tr dp zi co sh lt ts mf) A s.heap H locs → okM th tr dp zi co sh lt ts mf → 1 ≤ v25p_2.toInt → v25p_2.toInt ≤ 32768 → 0 ≤ v25p_3.toInt → v25p_3.toInt ≤ 10000 → 1 ≤ tr → x1.toInt ≤ (-1) → sh ≤ sh + 1 → lv_has ls 4 [(0, .ref (a 0)), (1, .int x1), (2, .int v25p_2), (3, .int v25p_3)] → v25p_3.toInt < (n : Int) → W p l e (headSpec tw_tbl rm_Mo_showNumber).room s m ([.ref (a 0), .int x1] : List Value).toArray below meth c H locs 0 0 Z (F0 m 25 ls []) := by
    intro n
    induction n with
    | zero => intro H locs ls v25p_2 v25p_3 hI hok g25_0 g25_1 g25_2 g25_3 g25_4 g25_5 g25_6 hl hme; exfalso; obtain ⟨⟨o191, o192⟩, ⟨o193, o194⟩, ⟨o195, o196⟩, ⟨o197, o198⟩, ⟨o199, o200⟩, ⟨o201, o202⟩, ⟨o203, o204⟩, ⟨o205, o206⟩, -⟩ := id hok; omega
    | succ n ih =>
      intro H locs ls v25p_2 v25p_3 hI hok g25_0 g25_1 g25_2 g25_3 g25_4 g25_5 g25_6 hl hme
      obtain ⟨⟨o207, o208⟩, ⟨o209, o210⟩, ⟨o211, o212⟩, ⟨o213, o214⟩, ⟨o215, o216⟩, ⟨o217, o218⟩, ⟨o219, o220⟩, ⟨o221, o222⟩, -⟩ := id hok
      refine lv_iload_n hx hb d_Mo_showNumber_25 rfl (lv_at hl 3 rfl) ?_
      refine sn_iconst hx hb d_Mo_showNumber_26 (by decide) (fun z223 hz223 => ?_)
      refine sn_icmp_le (tgt := 43) hx hb d_Mo_showNumber_27 (by decide) (fun b224 => ?_) (fun b224 => ?_)
      · exact j43p 10001 _ _ _ v25p_2 v25p_3 hI hok (by omega) (by omega) (by omega) (by omega) (by omega) (by omega) (lv_sub hl [0, 1, 2, 3] rfl) (by omega)
      · refine lv_iload_n hx hb d_Mo_showNumber_30 rfl (lv_at hl 3 rfl) ?_
        refine lv_iload_n hx hb d_Mo_showNumber_31 rfl (lv_at hl 2 rfl) ?_
        refine sn_icmp_le (tgt := 43) hx hb d_Mo_showNumber_32 (by decide) (fun b225 => ?_) (fun b225 => ?_)
        · exact j43p 10001 _ _ _ v25p_2 v25p_3 hI hok (by omega) (by omega) (by omega) (by omega) (by omega) (by omega) (lv_sub hl [0, 1, 2, 3] rfl) (by omega)
        · refine lv_iload_n hx hb d_Mo_showNumber_35 rfl (lv_at hl 3 rfl) ?_
          refine sn_bipush hx hb d_Mo_showNumber_36 (by decide) (fun z226 hz226 => ?_)
          refine sn_idiv (k := 10) hx hb d_Mo_showNumber_38 (by omega) (by omega) (by omega) (fun z227 hz227 => ?_)
          refine lv_istore_n (lv' := [(3, .int z227), (0, .ref (a 0)), (1, .int x1), (2, .int v25p_2)]) hx hb d_Mo_showNumber_39 rfl hl (by decide) rfl (fun ls hl => ?_)
          refine lv_goto (tgt := 25) hx hb d_Mo_showNumber_40 (by decide) ?_
          exact ih _ _ _ v25p_2 z227 hI hok (by omega) (by omega) (by omega) (by omega) (by omega) (by omega) (by omega) (lv_sub hl [1, 2, 3, 0] rfl) (by omega)
  have j10p : ∀ (H : Heap) (locs : List Loc) (ls : Array Slot), sI (dC, dI) vcl cI cJ (gsM a th tr dp zi co sh lt ts mf) A s.heap H locs → okM th tr dp zi co sh lt ts mf → 1 ≤ tr → x1.toInt ≤ (-1) → sh ≤ sh + 1 → lv_has ls 4 [(0, .ref (a 0)), (1, .int x1)] → W p l e (headSpec tw_tbl rm_Mo_showNumber).room s m ([.ref (a 0), .int x1] : List Value).toArray below meth c H locs 0 0 Z (F0 m 10 ls []) := by
    intro H locs ls hI hok g10_0 g10_1 g10_2 hl
    obtain ⟨⟨o228, o229⟩, ⟨o230, o231⟩, ⟨o232, o233⟩, ⟨o234, o235⟩, ⟨o236, o237⟩, ⟨o238, o239⟩, ⟨o240, o241⟩, ⟨o242, o243⟩, -⟩ := id hok
    refine lv_iload_n hx hb d_Mo_showNumber_10 rfl (lv_at hl 1 rfl) ?_
    refine sn_if_ge (tgt := 19) hx hb d_Mo_showNumber_11 (by decide) (fun b244 => ?_) (fun b244 => ?_)
    · omega
    · refine lv_iload_n hx hb d_Mo_showNumber_14 rfl (lv_at hl 1 rfl) ?_
      refine sn_ineg hx hb d_Mo_showNumber_15 (by omega) (fun z245 hz245 => ?_)
      refine lv_goto (tgt := 20) hx hb d_Mo_showNumber_16 (by decide) ?_
      refine lv_istore_n (lv' := [(2, .int z245), (0, .ref (a 0)), (1, .int x1)]) hx hb d_Mo_showNumber_20 rfl hl (by decide) rfl (fun ls hl => ?_)
      refine sn_sipush hx hb d_Mo_showNumber_21 (by decide) (fun z246 hz246 => ?_)
      refine lv_istore_n (lv' := [(3, .int z246), (2, .int z245), (0, .ref (a 0)), (1, .int x1)]) hx hb d_Mo_showNumber_24 rfl hl (by decide) rfl (fun ls hl => ?_)
      exact j25p 10001 _ _ _ z245 z246 hI hok (by omega) (by omega) (by omega) (by omega) (by omega) (by omega) (by omega) (lv_sub hl [2, 3, 1, 0] rfl) (by omega)
  have j25z : ∀ (n : Nat) (H : Heap) (locs : List Loc) (ls : Array Slot) (v25z_2 v25z_3 : Int32) (t25z_sh : Int), sI (dC, dI) vcl cI cJ (gsM a th tr dp zi co t25z_sh lt ts mf) A s.heap H locs → okM th tr dp zi co t25z_sh lt ts mf → 1 ≤ v25z_2.toInt → v25z_2.toInt ≤ 32768 → 0 ≤ v25z_3.toInt → v25z_3.toInt ≤ 10000 → 1 ≤ t25z_sh → t25z_sh ≤ 2000000000 → tr ≤ 0 → x1.toInt ≤ (-1) → t25z_sh ≤ sh + 1 → lv_has ls 4 [(0, .ref (a 0)), (1, .int x1), (2, .int v25z_2), (3, .int v25z_3)] → v25z_3.toInt < (n : Int) → W p l e (headSpec tw_tbl rm_Mo_showNumber).room s m ([.ref (a 0), .int x1] : List Value).toArray below meth c H locs 0 0 Z (F0 m 25 ls []) := by
    intro n
    induction n with
    | zero => intro H locs ls v25z_2 v25z_3 t25z_sh hI hok g25_0 g25_1 g25_2 g25_3 g25_4 g25_5 g25_6 g25_7 g25_8 hl hme; exfalso; obtain ⟨⟨o247, o248⟩, ⟨o249, o250⟩, ⟨o251, o252⟩, ⟨o253, o254⟩, ⟨o255, o256⟩, ⟨o257, o258⟩, ⟨o259, o260⟩, ⟨o261, o262⟩, -⟩ := id hok; omega
    | succ n ih =>
      intro H locs ls v25z_2 v25z_3 t25z_sh hI hok g25_0 g25_1 g25_2 g25_3 g25_4 g25_5 g25_6 g25_7 g25_8 hl hme
      obtain ⟨⟨o263, o264⟩, ⟨o265, o266⟩, ⟨o267, o268⟩, ⟨o269, o270⟩, ⟨o271, o272⟩, ⟨o273, o274⟩, ⟨o275, o276⟩, ⟨o277, o278⟩, -⟩ := id hok
      refine lv_iload_n hx hb d_Mo_showNumber_25 rfl (lv_at hl 3 rfl) ?_
      refine sn_iconst hx hb d_Mo_showNumber_26 (by decide) (fun z279 hz279 => ?_)
      refine sn_icmp_le (tgt := 43) hx hb d_Mo_showNumber_27 (by decide) (fun b280 => ?_) (fun b280 => ?_)
      · exact j43z 10001 _ _ _ v25z_2 v25z_3 t25z_sh hI hok (by omega) (by omega) (by omega) (by omega) (by omega) (by omega) (by omega) (by omega) (lv_sub hl [0, 1, 2, 3] rfl) (by omega)
      · refine lv_iload_n hx hb d_Mo_showNumber_30 rfl (lv_at hl 3 rfl) ?_
        refine lv_iload_n hx hb d_Mo_showNumber_31 rfl (lv_at hl 2 rfl) ?_
        refine sn_icmp_le (tgt := 43) hx hb d_Mo_showNumber_32 (by decide) (fun b281 => ?_) (fun b281 => ?_)
        · exact j43z 10001 _ _ _ v25z_2 v25z_3 t25z_sh hI hok (by omega) (by omega) (by omega) (by omega) (by omega) (by omega) (by omega) (by omega) (lv_sub hl [0, 1, 2, 3] rfl) (by omega)
        · refine lv_iload_n hx hb d_Mo_showNumber_35 rfl (lv_at hl 3 rfl) ?_
          refine sn_bipush hx hb d_Mo_showNumber_36 (by decide) (fun z282 hz282 => ?_)
          refine sn_idiv (k := 10) hx hb d_Mo_showNumber_38 (by omega) (by omega) (by omega) (fun z283 hz283 => ?_)
          refine lv_istore_n (lv' := [(3, .int z283), (0, .ref (a 0)), (1, .int x1), (2, .int v25z_2)]) hx hb d_Mo_showNumber_39 rfl hl (by decide) rfl (fun ls hl => ?_)
          refine lv_goto (tgt := 25) hx hb d_Mo_showNumber_40 (by decide) ?_
          exact ih _ _ _ v25z_2 z283 t25z_sh hI hok (by omega) (by omega) (by omega) (by omega) (by omega) (by omega) (by omega) (by omega) (by omega) (lv_sub hl [1, 2, 3, 0] rfl) (by omega)
  have j10z : ∀ (H : Heap) (locs : List Loc) (ls : Array Slot) (t10z_sh : Int), sI (dC, dI) vcl cI cJ (gsM a th tr dp zi co t10z_sh lt ts mf) A s.heap H locs → okM th tr dp zi co t10z_sh lt ts mf → 1 ≤ t10z_sh → t10z_sh ≤ 2000000000 → tr ≤ 0 → x1.toInt ≤ (-1) → t10z_sh ≤ sh + 1 → lv_has ls 4 [(0, .ref (a 0)), (1, .int x1)] → W p l e (headSpec tw_tbl rm_Mo_showNumber).room s m ([.ref (a 0), .int x1] : List Value).toArray below meth c H locs 0 0 Z (F0 m 10 ls []) := by
    intro H locs ls t10z_sh hI hok g10_0 g10_1 g10_2 g10_3 g10_4 hl
    obtain ⟨⟨o284, o285⟩, ⟨o286, o287⟩, ⟨o288, o289⟩, ⟨o290, o291⟩, ⟨o292, o293⟩, ⟨o294, o295⟩, ⟨o296, o297⟩, ⟨o298, o299⟩, -⟩ := id hok
    refine lv_iload_n hx hb d_Mo_showNumber_10 rfl (lv_at hl 1 rfl) ?_
    refine sn_if_ge (tgt := 19) hx hb d_Mo_showNumber_11 (by decide) (fun b300 => ?_) (fun b300 => ?_)
    · omega
    · refine lv_iload_n hx hb d_Mo_showNumber_14 rfl (lv_at hl 1 rfl) ?_
      refine sn_ineg hx hb d_Mo_showNumber_15 (by omega) (fun z301 hz301 => ?_)
      refine lv_goto (tgt := 20) hx hb d_Mo_showNumber_16 (by decide) ?_
      refine lv_istore_n (lv' := [(2, .int z301), (0, .ref (a 0)), (1, .int x1)]) hx hb d_Mo_showNumber_20 rfl hl (by decide) rfl (fun ls hl => ?_)
      refine sn_sipush hx hb d_Mo_showNumber_21 (by decide) (fun z302 hz302 => ?_)
      refine lv_istore_n (lv' := [(3, .int z302), (2, .int z301), (0, .ref (a 0)), (1, .int x1)]) hx hb d_Mo_showNumber_24 rfl hl (by decide) rfl (fun ls hl => ?_)
      exact j25z 10001 _ _ _ z301 z302 t10z_sh hI hok (by omega) (by omega) (by omega) (by omega) (by omega) (by omega) (by omega) (by omega) (by omega) (lv_sub hl [2, 3, 1, 0] rfl) (by omega)
  refine lv_iload_n hx hb d_Mo_showNumber_0 rfl (lv_at hl 1 rfl) ?_
  refine sn_if_ge (tgt := 10) hx hb d_Mo_showNumber_1 (by decide) (fun b303 => ?_) (fun b303 => ?_)
  · exact j10u _ _ _  hI hok (by omega) (by omega) (lv_sub hl [0, 1] rfl)
  · refine lv_aload_n hx hb d_Mo_showNumber_4 rfl (lv_at hl 0 rfl) ?_
    refine sn_bipush hx hb d_Mo_showNumber_5 (by decide) (fun z304 hz304 => ?_)
    refine tz_call (A1 := ga (adM a) H.size) (tz_runV (C := "StoryMachineModel") (As := [.int z304]) (rest := []) ⟨hx, hb, hml, hown, hts⟩ (c_Mo_show l hfl dC dI cI cJ a H.size th tr dp zi co sh lt ts mf z304 hok (by omega)) (tx_cb (n := 1) hts rfl rfl ⟨Nat.le_of_ble_eq_true rfl, Nat.le_of_ble_eq_true rfl⟩ (tx_code.of (hts _ mw_1410)) (hts _ mw_12) (by decide +kernel) (hts _ mw_1407)) (hts _ mw_1409) (hts _ ms_Mo_show) ⟨tz_blind, sv_recv (q0 := 0) hts in_Mo hK hI kM_0 rfl, fun U hU hW => ⟨rfl, by rw [hU], by rw [hU]; exact hI.1, va_K.moved hW.alike hK, hst _ _ hI.2 U hU hW⟩⟩ rfl rfl hl.1 rfl (lv_room (Nat.le_of_ble_eq_true rfl)) d_Mo_showNumber_7 ⟨Nat.le_of_ble_eq_true rfl, Nat.le_of_ble_eq_true rfl⟩) hI.2 (fun q _ h => ga_sub hAC hA0 hI.2 q h) (ga_sub hAC hA0 hI.2) (fun v t H1 locs1 ht hWt hpost _ _ hS => ?_) (fun x t H1 locs1 ht hWt hpost _ _ hS => (hpost.2 x rfl).elim)
    rcases hpost.1 _ rfl with ⟨hv, c305, c305_0, hI1⟩ | ⟨t_sh306, hv, c307, c307_0, c307_1, c307_2, hI1⟩
    · cases hv
      have hI : sI (dC, dI) vcl cI cJ (gsM a th tr dp zi co sh lt ts mf) A s.heap H1 locs1 := ⟨by rw [← ht]; exact hI1, hS⟩
      clear hpost hI1 hS ht hWt
      revert hI; generalize H1 = H; generalize locs1 = locs; intro hI
      exact j10p _ _ _  hI c305 (by omega) (by omega) (by omega) (lv_sub hl [0, 1] rfl)
    · cases hv
      have hI : sI (dC, dI) vcl cI cJ (gsM a th tr dp zi co t_sh306 lt ts mf) A s.heap H1 locs1 := ⟨by rw [← ht]; exact hI1, hS⟩
      obtain ⟨-, -, -, -, -, ⟨o308, o309⟩, -, -, -⟩ := id c307
      clear hpost hI1 hS ht hWt
      revert hI; generalize H1 = H; generalize locs1 = locs; intro hI
      exact j10z _ _ _ t_sh306 hI c307 (by omega) (by omega) (by omega) (by omega) (by omega) (lv_sub hl [0, 1] rfl)
abbrev q_Mo_setByte (dC : Nat → ClassId) (dI : Nat → Nat → Nat) (cI cJ : ClassId) (a : Nat → Nat) (th tr dp zi co sh lt ts : Int) (mf : Nat → Int32) (x1 : Int32) (x2 : Int32) : Outcome → State → Prop := fun o t => (∀ v, o = .returned v → ((∃ (tr_ : Int), v = none ∧ okM th tr_ dp zi co sh lt ts mf ∧ (1 ≤ tr_) ∧ sh_I (dC, dI) vcl cI cJ (gsM a th tr_ dp zi co sh lt ts mf) t.heap) ∨ (∃ (mf_ : Nat → Int32), v = none ∧ okM th tr dp zi co sh lt ts mf_ ∧ (16 ≤ x1.toInt) ∧ (x1.toInt ≤ 511) ∧ (tr ≤ 0) ∧ sh_I (dC, dI) vcl cI cJ (gsM a th tr dp zi co sh lt ts mf_) t.heap))) ∧ (∀ x, o = .threw x → (False))
def rm_Mo_setByte : Room := { frames := 1, cells := 0, slots := 0, locals := 22 }
set_option maxHeartbeats 4000000 in
set_option maxRecDepth 100000 in
theorem c_Mo_setByte (l : Launch) (hfl : l.flags = pinnedFlags ++ [noTraceFlag]) (dC : Nat → ClassId) (dI : Nat → Nat → Nat) (cI cJ : ClassId) (a : Nat → Nat) (sz : Nat) (th tr dp zi co sh lt ts : Int) (mf : Nat → Int32) (x1 : Int32) (x2 : Int32) (hok : okM th tr dp zi co sh lt ts mf) : tz_Met l ⟨"StoryMachineModel", "setByte", "(II)V"⟩ tw_tbl rm_Mo_setByte (tzP (dC, dI) vcl cI cJ (gsM a th tr dp zi co sh lt ts mf) a (adM a) [.ref (a 0), .int x1, .int x2] sz) (tq_Q (q_Mo_setByte dC dI cI cJ a th tr dp zi co sh lt ts mf x1 x2) (ga (adM a) sz)) 0 0 0 0 (ga (adM a) sz) := by
  refine tz_ofW (cc := prog_13_method_8_code) (maxL := 3) (ret := none) (by decide) (tx_isM mw_1353) ?_
  intro p e s m args below meth c s₁ B hml hv
  obtain ⟨rfl, hsz, hI0, hK, hst0⟩ := hv
  have hx := B.exec
  have hb := B.bytes
  have hr := B.returns
  have hts := atoms_spec (ws := tw_tbl) B.pre
  have hown : s.vm.findClass "StoryMachineModel" = some m.cls := findClass_of_methodNamed B.named
  have hlocks := B.notSynchronized
  subst hsz
  have hst := fun (H : Heap) (locs : List Loc) (hS : va_S (ga (adM a) s.heap.size) s.heap H locs) (U : State) (hU : U.heap = H) (hW : s.WarmedH U.vm) => zS_all adM_map hI0 hst0 hS hU hW
  have hAC : ∀ q ∈ adM a, ga (adM a) s.heap.size q := fun q h => Or.inl h
  have hA0 : ∀ q, s.heap.size ≤ q → ga (adM a) s.heap.size q := fun q h => Or.inr h
  have hI : sI (dC, dI) vcl cI cJ (gsM a th tr dp zi co sh lt ts mf) (ga (adM a) s.heap.size) s.heap s.heap [] := ⟨hI0, va_S.rf⟩
  clear hI0 hst0
  have hl := lv_entry ([.ref (a 0), .int x1, .int x2]) (n := 3) (Nat.le_of_ble_eq_true rfl)
  rw [lg_entry_eq]
  generalize (lg_sl ([.ref (a 0), .int x1, .int x2]) ++ List.replicate (3 - (lg_sl ([.ref (a 0), .int x1, .int x2])).length) Slot.unset).toArray = ls at hl ⊢
  have hl : lv_has ls 3 [(0, .ref (a 0)), (1, .int x1), (2, .int x2)] := hl
  generalize hZ : tz_MQ below (tq_Q (q_Mo_setByte dC dI cI cJ a th tr dp zi co sh lt ts mf x1 x2) (ga (adM a) s.heap.size)) ([.ref (a 0), .int x1, .int x2] : List Value).toArray s 0 0 0 0 (ga (adM a) s.heap.size) = Z
  obtain ⟨A, hAe⟩ : ∃ A, A = ga (adM a) s.heap.size := ⟨_, rfl⟩
  rw [← hAe] at hst hAC hA0 hI hZ
  refine sv_start hI (fun H locs hI => ?_)
  obtain ⟨⟨o1, o2⟩, ⟨o3, o4⟩, ⟨o5, o6⟩, ⟨o7, o8⟩, ⟨o9, o10⟩, ⟨o11, o12⟩, ⟨o13, o14⟩, ⟨o15, o16⟩, -⟩ := id hok
  have gx1 := sn_rng x1
  have gx2 := sn_rng x2
  refine lv_aload_n hx hb d_Mo_setByte_0 rfl (lv_at hl 0 rfl) ?_
  refine lv_aload_n hx hb d_Mo_setByte_1 rfl (lv_at hl 0 rfl) ?_
  refine lv_iload_n hx hb d_Mo_setByte_2 rfl (lv_at hl 1 rfl) ?_
  refine tz_call (A1 := ga (adM a) H.size) (tz_runV (C := "StoryMachineModel") (As := [.int x1]) (rest := [.ref (a 0)]) ⟨hx, hb, hml, hown, hts⟩ (c_Mo_own l hfl dC dI cI cJ a H.size th tr dp zi co sh lt ts mf x1 hok) (tx_cb (n := 1) hts rfl rfl ⟨Nat.le_of_ble_eq_true rfl, Nat.le_of_ble_eq_true rfl⟩ (tx_code.of (hts _ mw_1313)) (hts _ mw_12) (by decide +kernel) (hts _ mw_1310)) (hts _ mw_1312) (hts _ ms_Mo_own) ⟨tz_blind, sv_recv (q0 := 0) hts in_Mo hK hI kM_0 rfl, fun U hU hW => ⟨rfl, by rw [hU], by rw [hU]; exact hI.1, va_K.moved hW.alike hK, hst _ _ hI.2 U hU hW⟩⟩ rfl rfl hl.1 rfl (lv_room (Nat.le_of_ble_eq_true rfl)) d_Mo_setByte_3 ⟨Nat.le_of_ble_eq_true rfl, Nat.le_of_ble_eq_true rfl⟩) hI.2 (fun q _ h => ga_sub hAC hA0 hI.2 q h) (ga_sub hAC hA0 hI.2) (fun v t H1 locs1 ht hWt hpost _ _ hS => ?_) (fun x t H1 locs1 ht hWt hpost _ _ hS => (hpost.2 x rfl).elim)
  rcases hpost.1 _ rfl with ⟨z17, hv, c18, c18_0, c18_1, hI1⟩ | ⟨z19, hv, c20, c20_0, c20_1, c20_2, c20_3, hI1⟩
  · cases hv
    have hI : sI (dC, dI) vcl cI cJ (gsM a th tr dp zi co sh lt ts mf) A s.heap H1 locs1 := ⟨by rw [← ht]; exact hI1, hS⟩
    clear hpost hI1 hS ht hWt
    revert hI; generalize H1 = H; generalize locs1 = locs; intro hI
    refine sn_iconst hx hb d_Mo_setByte_6 (by decide) (fun z21 hz21 => ?_)
    refine tz_call (A1 := ga (adM a) H.size) (tz_runV (C := "StoryMachineModel") (As := [.int z17, .int z21]) (rest := []) ⟨hx, hb, hml, hown, hts⟩ (c_Mo_good l hfl dC dI cI cJ a H.size th tr dp zi co sh lt ts mf z17 z21 c18 (by omega) (by omega) (by omega) (by omega)) (tx_cb (n := 2) hts rfl rfl ⟨Nat.le_of_ble_eq_true rfl, Nat.le_of_ble_eq_true rfl⟩ (tx_code.of (hts _ mw_1240)) (hts _ mw_12) (by decide +kernel) (hts _ mw_1237)) (hts _ mw_1239) (hts _ ms_Mo_good) ⟨tz_blind, sv_recv (q0 := 0) hts in_Mo hK hI kM_0 rfl, fun U hU hW => ⟨rfl, by rw [hU], by rw [hU]; exact hI.1, va_K.moved hW.alike hK, hst _ _ hI.2 U hU hW⟩⟩ rfl rfl hl.1 rfl (lv_room (Nat.le_of_ble_eq_true rfl)) d_Mo_setByte_7 ⟨Nat.le_of_ble_eq_true rfl, Nat.le_of_ble_eq_true rfl⟩) hI.2 (fun q _ h => ga_sub hAC hA0 hI.2 q h) (ga_sub hAC hA0 hI.2) (fun v t H1 locs1 ht hWt hpost _ _ hS => ?_) (fun x t H1 locs1 ht hWt hpost _ _ hS => (hpost.2 x rfl).elim)
    rcases hpost.1 _ rfl with ⟨z22, t_tr23, hv, c24, c24_0, c24_1, c24_2, c24_3, hI1⟩ | ⟨z25, hv, c26, c26_0, c26_1, c26_2, c26_3, hI1⟩
    · cases hv
      have hI : sI (dC, dI) vcl cI cJ (gsM a th t_tr23 dp zi co sh lt ts mf) A s.heap H1 locs1 := ⟨by rw [← ht]; exact hI1, hS⟩
      obtain ⟨-, ⟨o27, o28⟩, -, -, -, -, -, -, -⟩ := id c24
      clear hpost hI1 hS ht hWt
      revert hI; generalize H1 = H; generalize locs1 = locs; intro hI
      refine sn_if_eq (tgt := 24) hx hb d_Mo_setByte_10 (by decide) (fun b29 => ?_) (fun b29 => ?_)
      · subst hZ
        exact tz_ret (W.vret hx hb hr (fun t ht hW => ⟨⟨fun v9 hv9 => by cases hv9; exact (Or.inl ⟨t_tr23, rfl, c24, by omega, by rw [ht]; exact hI.1⟩), fun x9 hx9 => (by cases hx9)⟩, hI.2.F ht⟩) hI.2.2.2 d_Mo_setByte_24)
      · omega
    · omega
  · cases hv
    have hI : sI (dC, dI) vcl cI cJ (gsM a th tr dp zi co sh lt ts mf) A s.heap H1 locs1 := ⟨by rw [← ht]; exact hI1, hS⟩
    clear hpost hI1 hS ht hWt
    revert hI; generalize H1 = H; generalize locs1 = locs; intro hI
    refine sn_iconst hx hb d_Mo_setByte_6 (by decide) (fun z30 hz30 => ?_)
    refine tz_call (A1 := ga (adM a) H.size) (tz_runV (C := "StoryMachineModel") (As := [.int z19, .int z30]) (rest := []) ⟨hx, hb, hml, hown, hts⟩ (c_Mo_good l hfl dC dI cI cJ a H.size th tr dp zi co sh lt ts mf z19 z30 c20 (by omega) (by omega) (by omega) (by omega)) (tx_cb (n := 2) hts rfl rfl ⟨Nat.le_of_ble_eq_true rfl, Nat.le_of_ble_eq_true rfl⟩ (tx_code.of (hts _ mw_1240)) (hts _ mw_12) (by decide +kernel) (hts _ mw_1237)) (hts _ mw_1239) (hts _ ms_Mo_good) ⟨tz_blind, sv_recv (q0 := 0) hts in_Mo hK hI kM_0 rfl, fun U hU hW => ⟨rfl, by rw [hU], by rw [hU]; exact hI.1, va_K.moved hW.alike hK, hst _ _ hI.2 U hU hW⟩⟩ rfl rfl hl.1 rfl (lv_room (Nat.le_of_ble_eq_true rfl)) d_Mo_setByte_7 ⟨Nat.le_of_ble_eq_true rfl, Nat.le_of_ble_eq_true rfl⟩) hI.2 (fun q _ h => ga_sub hAC hA0 hI.2 q h) (ga_sub hAC hA0 hI.2) (fun v t H1 locs1 ht hWt hpost _ _ hS => ?_) (fun x t H1 locs1 ht hWt hpost _ _ hS => (hpost.2 x rfl).elim)
    rcases hpost.1 _ rfl with ⟨z31, t_tr32, hv, c33, c33_0, c33_1, c33_2, c33_3, hI1⟩ | ⟨z34, hv, c35, c35_0, c35_1, c35_2, c35_3, hI1⟩
    · cases hv
      have hI : sI (dC, dI) vcl cI cJ (gsM a th t_tr32 dp zi co sh lt ts mf) A s.heap H1 locs1 := ⟨by rw [← ht]; exact hI1, hS⟩
      obtain ⟨-, ⟨o36, o37⟩, -, -, -, -, -, -, -⟩ := id c33
      clear hpost hI1 hS ht hWt
      revert hI; generalize H1 = H; generalize locs1 = locs; intro hI
      refine sn_if_eq (tgt := 24) hx hb d_Mo_setByte_10 (by decide) (fun b38 => ?_) (fun b38 => ?_)
      · subst hZ
        exact tz_ret (W.vret hx hb hr (fun t ht hW => ⟨⟨fun v9 hv9 => by cases hv9; exact (Or.inl ⟨t_tr32, rfl, c33, by omega, by rw [ht]; exact hI.1⟩), fun x9 hx9 => (by cases hx9)⟩, hI.2.F ht⟩) hI.2.2.2 d_Mo_setByte_24)
      · omega
    · cases hv
      have hI : sI (dC, dI) vcl cI cJ (gsM a th tr dp zi co sh lt ts mf) A s.heap H1 locs1 := ⟨by rw [← ht]; exact hI1, hS⟩
      clear hpost hI1 hS ht hWt
      revert hI; generalize H1 = H; generalize locs1 = locs; intro hI
      refine sn_if_eq (tgt := 24) hx hb d_Mo_setByte_10 (by decide) (fun b39 => ?_) (fun b39 => ?_)
      · omega
      · refine lv_aload_n hx hb d_Mo_setByte_13 rfl (lv_at hl 0 rfl) ?_
        refine sv_getr (C := "StoryMachineModel") (T := T_Mo) (N := 51) hx hb hts in_Mo hown hK hI 0 kM_0 rfl 1 (by decide) (hts _ mw_1064) rfl d_Mo_setByte_14 ?_
        refine lv_iload_n hx hb d_Mo_setByte_17 rfl (lv_at hl 1 rfl) ?_
        refine lv_iload_n hx hb d_Mo_setByte_18 rfl (lv_at hl 2 rfl) ?_
        refine sn_sipush hx hb d_Mo_setByte_19 (by decide) (fun z40 hz40 => ?_)
        refine sn_iand (k := 8) (M := 255) hx hb d_Mo_setByte_22 (by decide) (by decide) (by omega) (fun z41 hz41a hz41b hz41c => ?_)
        clear hz41c
        refine sv_iast hx hb hK (sh_in adM_map hAC) hI 1 kM_1 (P' := fun g => g = upd mf (x1.toNatClampNeg) z41) (by omega) (by omega) (fun g hg => by rw [hg]) pM_1 d_Mo_setByte_23 (fun H locs hI => ?_)
        obtain ⟨f42, hf42⟩ : ∃ z : Nat → Int32, z = upd mf (x1.toNatClampNeg) z41 := ⟨_, rfl⟩
        rw [← hf42] at hI
        have rf42 : rg 0 255 f42 := by rw [hf42]; exact rg_upd c35.2.2.2.2.2.2.2.2 (by omega) (by omega)
        have ho43 : okM th tr dp zi co sh lt ts f42 := ⟨c35.1, c35.2.1, c35.2.2.1, c35.2.2.2.1, c35.2.2.2.2.1, c35.2.2.2.2.2.1, c35.2.2.2.2.2.2.1, c35.2.2.2.2.2.2.2.1, rf42⟩
        subst hZ
        exact tz_ret (W.vret hx hb hr (fun t ht hW => ⟨⟨fun v9 hv9 => by cases hv9; exact (Or.inr (⟨f42, rfl, ho43, by omega, by omega, by omega, by rw [ht]; exact hI.1⟩)), fun x9 hx9 => (by cases hx9)⟩, hI.2.F ht⟩) hI.2.2.2 d_Mo_setByte_24)
