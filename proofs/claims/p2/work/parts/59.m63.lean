abbrev q_Mo_run (dC : Nat → ClassId) (dI : Nat → Nat → Nat) (cI cJ : ClassId) (a : Nat → Nat) (th tr dp zi co sh lt ts : Int) (mf : Nat → Int32) (x1 : Int32) : Outcome → State → Prop := fun o t => (∀ v, o = .returned v → ((∃ (z : Int32) (th_ tr_ dp_ zi_ co_ sh_ lt_ : Int) (mf_ : Nat → Int32), v = some (.int z) ∧ okM th_ tr_ dp_ zi_ co_ sh_ lt_ ts mf_ ∧ (0 ≤ z.toInt) ∧ (z.toInt ≤ 5) ∧ (1 ≤ x1.toInt) ∧ (x1.toInt ≤ 300) ∧ (th_ ≤ 0) ∧ (1 ≤ tr_) ∧ (sh_ ≤ sh + 3003000) ∧ sh_I (dC, dI) vcl cI cJ (gsM a th_ tr_ dp_ zi_ co_ sh_ lt_ ts mf_) t.heap) ∨ (∃ (z : Int32) (th_ : Int), v = some (.int z) ∧ okM th_ tr dp zi co sh lt ts mf ∧ (0 ≤ z.toInt) ∧ (z.toInt ≤ 5) ∧ sh_I (dC, dI) vcl cI cJ (gsM a th_ tr dp zi co sh lt ts mf) t.heap) ∨ (∃ (z : Int32) (th_ tr_ dp_ zi_ co_ sh_ lt_ : Int) (mf_ : Nat → Int32), v = some (.int z) ∧ okM th_ tr_ dp_ zi_ co_ sh_ lt_ ts mf_ ∧ (0 ≤ z.toInt) ∧ (z.toInt ≤ 5) ∧ (1 ≤ x1.toInt) ∧ (x1.toInt ≤ 300) ∧ (th_ ≤ 0) ∧ (tr_ ≤ 0) ∧ (sh_ ≤ sh + 3003000) ∧ sh_I (dC, dI) vcl cI cJ (gsM a th_ tr_ dp_ zi_ co_ sh_ lt_ ts mf_) t.heap))) ∧ (∀ x, o = .threw x → (False))
def rm_Mo_run : Room := { frames := 11, cells := 0, slots := 0, locals := 254 }
set_option maxHeartbeats 4000000 in
set_option maxRecDepth 100000 in
theorem c_Mo_run (l : Launch) (hfl : l.flags = pinnedFlags ++ [noTraceFlag]) (dC : Nat → ClassId) (dI : Nat → Nat → Nat) (cI cJ : ClassId) (a : Nat → Nat) (sz : Nat) (th tr dp zi co sh lt ts : Int) (mf : Nat → Int32) (x1 : Int32) (hok : okM th tr dp zi co sh lt ts mf) (hp0 : sh ≤ 1996997000) : tz_Met l ⟨"StoryMachineModel", "run", "(I)I"⟩ tw_tbl rm_Mo_run (tzP (dC, dI) vcl cI cJ (gsM a th tr dp zi co sh lt ts mf) a (adM a) [.ref (a 0), .int x1] sz) (tq_Q (q_Mo_run dC dI cI cJ a th tr dp zi co sh lt ts mf x1) (ga (adM a) sz)) 0 0 0 0 (ga (adM a) sz) := by
  refine tz_ofW (cc := prog_13_method_72_code) (maxL := 3) (ret := (some .int)) (by decide) (tx_isM mw_1224) ?_
  intro p e s m args below meth c s₁ B hml hv
  obtain ⟨rfl, hsz, hI0, hK, hst0⟩ := hv
  have hx := B.exec
  have hb := B.bytes
  have hr := B.returns
  have hts := atoms_spec (ws := tw_tbl) B.pre
  have hown : s.vm.findClass "StoryMachineModel" = some m.cls := findClass_of_methodNamed B.named
  have hlocks := B.notSynchronized
  subst hsz
  have hst := fun (H : Heap) (locs : List Loc) (hS : va_S (ga (adM a) s.heap.size) s.heap H locs) (U : State) (hU : U.heap = H) (hW : s.WarmedH U.vm) => zS_all adM_map hI0 hst0 hS hU hW
  have hAC : ∀ q ∈ adM a, ga (adM a) s.heap.size q := fun q h => Or.inl h
  have hA0 : ∀ q, s.heap.size ≤ q → ga (adM a) s.heap.size q := fun q h => Or.inr h
  have hI : sI (dC, dI) vcl cI cJ (gsM a th tr dp zi co sh lt ts mf) (ga (adM a) s.heap.size) s.heap s.heap [] := ⟨hI0, va_S.rf⟩
  clear hI0 hst0
  have hl := lv_entry ([.ref (a 0), .int x1]) (n := 3) (Nat.le_of_ble_eq_true rfl)
  rw [lg_entry_eq]
  generalize (lg_sl ([.ref (a 0), .int x1]) ++ List.replicate (3 - (lg_sl ([.ref (a 0), .int x1])).length) Slot.unset).toArray = ls at hl ⊢
  have hl : lv_has ls 3 [(0, .ref (a 0)), (1, .int x1)] := hl
  generalize hZ : tz_MQ below (tq_Q (q_Mo_run dC dI cI cJ a th tr dp zi co sh lt ts mf x1) (ga (adM a) s.heap.size)) ([.ref (a 0), .int x1] : List Value).toArray s 0 0 0 0 (ga (adM a) s.heap.size) = Z
  obtain ⟨A, hAe⟩ : ∃ A, A = ga (adM a) s.heap.size := ⟨_, rfl⟩
  rw [← hAe] at hst hAC hA0 hI hZ
  refine sv_start hI (fun H locs hI => ?_)
  obtain ⟨⟨o1, o2⟩, ⟨o3, o4⟩, ⟨o5, o6⟩, ⟨o7, o8⟩, ⟨o9, o10⟩, ⟨o11, o12⟩, ⟨o13, o14⟩, ⟨o15, o16⟩, -⟩ := id hok
  have gx1 := sn_rng x1
  have j115u : ∀ (H : Heap) (locs : List Loc) (ls : Array Slot) (v115u_2 : Int32) (t115u_th : Int), sI (dC, dI) vcl cI cJ (gsM a t115u_th tr dp zi co sh lt ts mf) A s.heap H locs → okM t115u_th tr dp zi co sh lt ts mf → 0 ≤ v115u_2.toInt → v115u_2.toInt ≤ 0 → 0 ≤ t115u_th → t115u_th ≤ 0 → 1 ≤ x1.toInt → x1.toInt ≤ 300 → sh ≤ sh + 3003000 → lv_has ls 3 [(0, .ref (a 0)), (1, .int x1), (2, .int v115u_2)] → W p l e (headSpec tw_tbl rm_Mo_run).room s m ([.ref (a 0), .int x1] : List Value).toArray below meth c H locs 0 0 Z (F0 m 115 ls []) := by
    intro H locs ls v115u_2 t115u_th hI hok g115_0 g115_1 g115_2 g115_3 g115_4 g115_5 g115_6 hl
    obtain ⟨⟨o17, o18⟩, ⟨o19, o20⟩, ⟨o21, o22⟩, ⟨o23, o24⟩, ⟨o25, o26⟩, ⟨o27, o28⟩, ⟨o29, o30⟩, ⟨o31, o32⟩, -⟩ := id hok
    refine lv_aload_n hx hb d_Mo_run_115 rfl (lv_at hl 0 rfl) ?_
    refine sv_get (C := "StoryMachineModel") (T := T_Mo) (N := 51) hx hb hts in_Mo hown hK hI 0 kM_0 rfl 24 (by decide) (hts _ mw_1087) rfl d_Mo_run_116 (fun z33 hz33a hz33b => ?_)
    subst hZ
    exact tz_ret (W.iret (v := z33) hx hb hr (fun t ht hW => ⟨⟨fun v9 hv9 => by cases hv9; exact (Or.inr (Or.inl ⟨z33, t115u_th, rfl, hok, by omega, by omega, by rw [ht]; exact hI.1⟩)), fun x9 hx9 => (by cases hx9)⟩, hI.2.F ht⟩) hI.2.2.2 d_Mo_run_119)
  have j115p : ∀ (H : Heap) (locs : List Loc) (ls : Array Slot) (v115p_2 : Int32) (t115p_th t115p_tr t115p_dp t115p_zi t115p_co t115p_sh t115p_lt : Int) (t115p_mf : Nat → Int32), sI (dC, dI) vcl cI cJ (gsM a t115p_th t115p_tr t115p_dp t115p_zi t115p_co t115p_sh t115p_lt ts t115p_mf) A s.heap H locs → okM t115p_th t115p_tr t115p_dp t115p_zi t115p_co t115p_sh t115p_lt ts t115p_mf → 1 ≤ v115p_2.toInt → v115p_2.toInt ≤ 300 → 0 ≤ t115p_th → t115p_th ≤ 0 → 1 ≤ t115p_tr → t115p_tr ≤ 4 → 1 ≤ x1.toInt → x1.toInt ≤ 300 → t115p_sh ≤ sh + 3003000 → lv_has ls 3 [(0, .ref (a 0)), (1, .int x1), (2, .int v115p_2)] → W p l e (headSpec tw_tbl rm_Mo_run).room s m ([.ref (a 0), .int x1] : List Value).toArray below meth c H locs 0 0 Z (F0 m 115 ls []) := by
    intro H locs ls v115p_2 t115p_th t115p_tr t115p_dp t115p_zi t115p_co t115p_sh t115p_lt t115p_mf hI hok g115_0 g115_1 g115_2 g115_3 g115_4 g115_5 g115_6 g115_7 g115_8 hl
    obtain ⟨⟨o34, o35⟩, ⟨o36, o37⟩, ⟨o38, o39⟩, ⟨o40, o41⟩, ⟨o42, o43⟩, ⟨o44, o45⟩, ⟨o46, o47⟩, ⟨o48, o49⟩, -⟩ := id hok
    refine lv_aload_n hx hb d_Mo_run_115 rfl (lv_at hl 0 rfl) ?_
    refine sv_get (C := "StoryMachineModel") (T := T_Mo) (N := 51) hx hb hts in_Mo hown hK hI 0 kM_0 rfl 24 (by decide) (hts _ mw_1087) rfl d_Mo_run_116 (fun z50 hz50a hz50b => ?_)
    subst hZ
    exact tz_ret (W.iret (v := z50) hx hb hr (fun t ht hW => ⟨⟨fun v9 hv9 => by cases hv9; exact (Or.inl ⟨z50, t115p_th, t115p_tr, t115p_dp, t115p_zi, t115p_co, t115p_sh, t115p_lt, t115p_mf, rfl, hok, by omega, by omega, by omega, by omega, by omega, by omega, by omega, by rw [ht]; exact hI.1⟩), fun x9 hx9 => (by cases hx9)⟩, hI.2.F ht⟩) hI.2.2.2 d_Mo_run_119)
  have j115z : ∀ (H : Heap) (locs : List Loc) (ls : Array Slot) (v115z_2 : Int32) (t115z_th t115z_tr t115z_dp t115z_zi t115z_co t115z_sh t115z_lt : Int) (t115z_mf : Nat → Int32), sI (dC, dI) vcl cI cJ (gsM a t115z_th t115z_tr t115z_dp t115z_zi t115z_co t115z_sh t115z_lt ts t115z_mf) A s.heap H locs → okM t115z_th t115z_tr t115z_dp t115z_zi t115z_co t115z_sh t115z_lt ts t115z_mf → 1 ≤ v115z_2.toInt → v115z_2.toInt ≤ 300 → 0 ≤ t115z_th → t115z_th ≤ 0 → 0 ≤ t115z_tr → t115z_tr ≤ 0 → 1 ≤ x1.toInt → x1.toInt ≤ 300 → t115z_sh ≤ sh + 3003000 → lv_has ls 3 [(0, .ref (a 0)), (1, .int x1), (2, .int v115z_2)] → W p l e (headSpec tw_tbl rm_Mo_run).room s m ([.ref (a 0), .int x1] : List Value).toArray below meth c H locs 0 0 Z (F0 m 115 ls []) := by
    intro H locs ls v115z_2 t115z_th t115z_tr t115z_dp t115z_zi t115z_co t115z_sh t115z_lt t115z_mf hI hok g115_0 g115_1 g115_2 g115_3 g115_4 g115_5 g115_6 g115_7 g115_8 hl
    obtain ⟨⟨o51, o52⟩, ⟨o53, o54⟩, ⟨o55, o56⟩, ⟨o57, o58⟩, ⟨o59, o60⟩, ⟨o61, o62⟩, ⟨o63, o64⟩, ⟨o65, o66⟩, -⟩ := id hok
    refine lv_aload_n hx hb d_Mo_run_115 rfl (lv_at hl 0 rfl) ?_
    refine sv_get (C := "StoryMachineModel") (T := T_Mo) (N := 51) hx hb hts in_Mo hown hK hI 0 kM_0 rfl 24 (by decide) (hts _ mw_1087) rfl d_Mo_run_116 (fun z67 hz67a hz67b => ?_)
    subst hZ
    exact tz_ret (W.iret (v := z67) hx hb hr (fun t ht hW => ⟨⟨fun v9 hv9 => by cases hv9; exact (Or.inr (Or.inr (⟨z67, t115z_th, t115z_tr, t115z_dp, t115z_zi, t115z_co, t115z_sh, t115z_lt, t115z_mf, rfl, hok, by omega, by omega, by omega, by omega, by omega, by omega, by omega, by rw [ht]; exact hI.1⟩))), fun x9 hx9 => (by cases hx9)⟩, hI.2.F ht⟩) hI.2.2.2 d_Mo_run_119)
  have j63p : ∀ (n : Nat) (H : Heap) (locs : List Loc) (ls : Array Slot) (v63p_2 : Int32) (t63p_th t63p_tr t63p_dp t63p_zi t63p_co t63p_sh t63p_lt : Int) (t63p_mf : Nat → Int32), sI (dC, dI) vcl cI cJ (gsM a t63p_th t63p_tr t63p_dp t63p_zi t63p_co t63p_sh t63p_lt ts t63p_mf) A s.heap H locs → okM t63p_th t63p_tr t63p_dp t63p_zi t63p_co t63p_sh t63p_lt ts t63p_mf → 1 ≤ v63p_2.toInt → v63p_2.toInt ≤ 300 → 0 ≤ t63p_th → t63p_th ≤ 0 → 1 ≤ t63p_tr → t63p_tr ≤ 4 → 1 ≤ x1.toInt → x1.toInt ≤ 300 → t63p_sh ≤ sh + 10010 * v63p_2.toInt → lv_has ls 3 [(0, .ref (a 0)), (1, .int x1), (2, .int v63p_2)] → 300 - v63p_2.toInt < (n : Int) → W p l e (headSpec tw_tbl rm_Mo_run).room s m ([.ref (a 0), .int x1] : List Value).toArray below meth c H locs 0 0 Z (F0 m 63 ls []) := by
    intro n
    induction n with
    | zero => intro H locs ls v63p_2 t63p_th t63p_tr t63p_dp t63p_zi t63p_co t63p_sh t63p_lt t63p_mf hI hok g63_0 g63_1 g63_2 g63_3 g63_4 g63_5 g63_6 g63_7 g63_8 hl hme; exfalso; obtain ⟨⟨o68, o69⟩, ⟨o70, o71⟩, ⟨o72, o73⟩, ⟨o74, o75⟩, ⟨o76, o77⟩, ⟨o78, o79⟩, ⟨o80, o81⟩, ⟨o82, o83⟩, -⟩ := id hok; omega
    | succ n ih =>
      intro H locs ls v63p_2 t63p_th t63p_tr t63p_dp t63p_zi t63p_co t63p_sh t63p_lt t63p_mf hI hok g63_0 g63_1 g63_2 g63_3 g63_4 g63_5 g63_6 g63_7 g63_8 hl hme
      obtain ⟨⟨o84, o85⟩, ⟨o86, o87⟩, ⟨o88, o89⟩, ⟨o90, o91⟩, ⟨o92, o93⟩, ⟨o94, o95⟩, ⟨o96, o97⟩, ⟨o98, o99⟩, -⟩ := id hok
      have j63z : ∀ (n : Nat) (H : Heap) (locs : List Loc) (ls : Array Slot) (v63z_2 : Int32) (t63z_th t63z_tr t63z_dp t63z_zi t63z_co t63z_sh t63z_lt : Int) (t63z_mf : Nat → Int32), sI (dC, dI) vcl cI cJ (gsM a t63z_th t63z_tr t63z_dp t63z_zi t63z_co t63z_sh t63z_lt ts t63z_mf) A s.heap H locs → okM t63z_th t63z_tr t63z_dp t63z_zi t63z_co t63z_sh t63z_lt ts t63z_mf → 1 ≤ v63z_2.toInt → v63z_2.toInt ≤ 300 → 0 ≤ t63z_th → t63z_th ≤ 0 → 0 ≤ t63z_tr → t63z_tr ≤ 0 → 1 ≤ x1.toInt → x1.toInt ≤ 300 → t63z_sh ≤ sh + 10010 * v63z_2.toInt → lv_has ls 3 [(0, .ref (a 0)), (1, .int x1), (2, .int v63z_2)] → 300 - v63z_2.toInt < (n : Int) → W p l e (headSpec tw_tbl rm_Mo_run).room s m ([.ref (a 0), .int x1] : List Value).toArray below meth c H locs 0 0 Z (F0 m 63 ls []) := by
        intro n
        induction n with
        | zero => intro H locs ls v63z_2 t63z_th t63z_tr t63z_dp t63z_zi t63z_co t63z_sh t63z_lt t63z_mf hI hok g63_0 g63_1 g63_2 g63_3 g63_4 g63_5 g63_6 g63_7 g63_8 hl hme; exfalso; obtain ⟨⟨o100, o101⟩, ⟨o102, o103⟩, ⟨o104, o105⟩, ⟨o106, o107⟩, ⟨o108, o109⟩, ⟨o110, o111⟩, ⟨o112, o113⟩, ⟨o114, o115⟩, -⟩ := id hok; omega
        | succ n ih =>
          intro H locs ls v63z_2 t63z_th t63z_tr t63z_dp t63z_zi t63z_co t63z_sh t63z_lt t63z_mf hI hok g63_0 g63_1 g63_2 g63_3 g63_4 g63_5 g63_6 g63_7 g63_8 hl hme
          obtain ⟨⟨o116, o117⟩, ⟨o118, o119⟩, ⟨o120, o121⟩, ⟨o122, o123⟩, ⟨o124, o125⟩, ⟨o126, o127⟩, ⟨o128, o129⟩, ⟨o130, o131⟩, -⟩ := id hok
          refine lv_iload_n hx hb d_Mo_run_63 rfl (lv_at hl 2 rfl) ?_
          refine lv_iload_n hx hb d_Mo_run_64 rfl (lv_at hl 1 rfl) ?_
          refine sn_icmp_ge (tgt := 115) hx hb d_Mo_run_65 (by decide) (fun b132 => ?_) (fun b132 => ?_)
          · exact j115z _ _ _ v63z_2 t63z_th t63z_tr t63z_dp t63z_zi t63z_co t63z_sh t63z_lt t63z_mf hI hok (by omega) (by omega) (by omega) (by omega) (by omega) (by omega) (by omega) (by omega) (by omega) (lv_sub hl [0, 1, 2] rfl)
          · refine lv_aload_n hx hb d_Mo_run_68 rfl (lv_at hl 0 rfl) ?_
            refine sv_get (C := "StoryMachineModel") (T := T_Mo) (N := 51) hx hb hts in_Mo hown hK hI 0 kM_0 rfl 24 (by decide) (hts _ mw_1087) rfl d_Mo_run_69 (fun z133 hz133a hz133b => ?_)
            refine sn_if_ne (tgt := 115) hx hb d_Mo_run_72 (by decide) (fun b134 => ?_) (fun b134 => ?_)
            · exact j115z _ _ _ v63z_2 t63z_th t63z_tr t63z_dp t63z_zi t63z_co t63z_sh t63z_lt t63z_mf hI hok (by omega) (by omega) (by omega) (by omega) (by omega) (by omega) (by omega) (by omega) (by omega) (lv_sub hl [0, 1, 2] rfl)
            · refine lv_aload_n hx hb d_Mo_run_75 rfl (lv_at hl 0 rfl) ?_
              refine tz_call (A1 := ga (adM a) H.size) (tz_runV (C := "StoryMachineModel") (As := []) (rest := []) ⟨hx, hb, hml, hown, hts⟩ (c_Mo_step l hfl dC dI cI cJ a H.size t63z_th t63z_tr t63z_dp t63z_zi t63z_co t63z_sh t63z_lt ts t63z_mf  hok (by omega)) (tx_cb (n := 0) hts rfl rfl ⟨Nat.le_of_ble_eq_true rfl, Nat.le_of_ble_eq_true rfl⟩ (tx_code.of (hts _ mw_1228)) (hts _ mw_12) (by decide +kernel) (hts _ mw_1225)) (hts _ mw_1227) (hts _ ms_Mo_step) ⟨tz_blind, sv_recv (q0 := 0) hts in_Mo hK hI kM_0 rfl, fun U hU hW => ⟨rfl, by rw [hU], by rw [hU]; exact hI.1, va_K.moved hW.alike hK, hst _ _ hI.2 U hU hW⟩⟩ rfl rfl hl.1 rfl (lv_room (Nat.le_of_ble_eq_true rfl)) d_Mo_run_76 ⟨Nat.le_of_ble_eq_true rfl, Nat.le_of_ble_eq_true rfl⟩) hI.2 (fun q _ h => ga_sub hAC hA0 hI.2 q h) (ga_sub hAC hA0 hI.2) (fun v t H1 locs1 ht hWt hpost _ _ hS => ?_) (fun x t H1 locs1 ht hWt hpost _ _ hS => (hpost.2 x rfl).elim)
              rcases hpost.1 _ rfl with ⟨t_tr135, t_dp136, t_zi137, t_co138, t_sh139, t_lt140, f_mf141, hv, c142, c142_0, c142_1, hI1⟩ | ⟨t_tr143, t_dp144, t_zi145, t_co146, t_sh147, t_lt148, f_mf149, hv, c150, c150_0, c150_1, hI1⟩
              · cases hv
                have hI : sI (dC, dI) vcl cI cJ (gsM a t63z_th t_tr135 t_dp136 t_zi137 t_co138 t_sh139 t_lt140 ts f_mf141) A s.heap H1 locs1 := ⟨by rw [← ht]; exact hI1, hS⟩
                obtain ⟨-, ⟨o151, o152⟩, ⟨o153, o154⟩, ⟨o155, o156⟩, ⟨o157, o158⟩, ⟨o159, o160⟩, ⟨o161, o162⟩, -, -⟩ := id c142
                clear hpost hI1 hS ht hWt
                revert hI; generalize H1 = H; generalize locs1 = locs; intro hI
                refine lv_aload_n hx hb d_Mo_run_79 rfl (lv_at hl 0 rfl) ?_
                refine lv_aload_n hx hb d_Mo_run_80 rfl (lv_at hl 0 rfl) ?_
                refine sv_gete (C := "StoryMachineModel") (T := T_Mo) (N := 51) hx hb hts in_Mo hown hK hI 0 kM_0 rfl 25 (by decide) (hts _ mw_1088) rfl d_Mo_run_81 (fun z163 hz163 => ?_)
                refine sn_if_le (tgt := 94) hx hb d_Mo_run_84 (by decide) (fun b164 => ?_) (fun b164 => ?_)
                · omega
                · refine lv_aload_n hx hb d_Mo_run_87 rfl (lv_at hl 0 rfl) ?_
                  refine sv_gete (C := "StoryMachineModel") (T := T_Mo) (N := 51) hx hb hts in_Mo hown hK hI 0 kM_0 rfl 25 (by decide) (hts _ mw_1088) rfl d_Mo_run_88 (fun z165 hz165 => ?_)
                  refine lv_goto (tgt := 106) hx hb d_Mo_run_91 (by decide) ?_
                  refine sv_put (C := "StoryMachineModel") (T := T_Mo) (N := 51) (ty := .int) hx hb hts in_Mo t_Mo tk_Mo nm_Mo hown hK (sh_in adM_map hAC) hI 0 kM_0 rfl 24 (by decide) (hts _ mw_1087) rfl (by decide +kernel) rfl rfl (Nat.le_of_ble_eq_true rfl) (by omega) (by omega) pM_0_24 d_Mo_run_106 (fun H locs hI => ?_)
                  refine sn_iinc (k := 2) hx hb d_Mo_run_109 hl rfl (by decide) (by decide) (by omega) (by omega) (fun ls z166 hz166 hl => ?_)
                  have hl : lv_has ls 3 [(2, .int z166), (0, .ref (a 0)), (1, .int x1)] := hl
                  refine lv_goto (tgt := 63) hx hb d_Mo_run_112 (by decide) ?_
                  exact ih _ _ _ z166 t63z_th t_tr135 t_dp136 t_zi137 t_co138 t_sh139 t_lt140 f_mf141 hI c142 (by omega) (by omega) (by omega) (by omega) (by omega) (by omega) (by omega) (by omega) (by omega) (lv_sub hl [1, 2, 0] rfl) (by omega)
              · cases hv
                have hI : sI (dC, dI) vcl cI cJ (gsM a t63z_th t_tr143 t_dp144 t_zi145 t_co146 t_sh147 t_lt148 ts f_mf149) A s.heap H1 locs1 := ⟨by rw [← ht]; exact hI1, hS⟩
                obtain ⟨-, ⟨o167, o168⟩, ⟨o169, o170⟩, ⟨o171, o172⟩, ⟨o173, o174⟩, ⟨o175, o176⟩, ⟨o177, o178⟩, -, -⟩ := id c150
                clear hpost hI1 hS ht hWt
                revert hI; generalize H1 = H; generalize locs1 = locs; intro hI
                refine lv_aload_n hx hb d_Mo_run_79 rfl (lv_at hl 0 rfl) ?_
                refine lv_aload_n hx hb d_Mo_run_80 rfl (lv_at hl 0 rfl) ?_
                refine sv_gete (C := "StoryMachineModel") (T := T_Mo) (N := 51) hx hb hts in_Mo hown hK hI 0 kM_0 rfl 25 (by decide) (hts _ mw_1088) rfl d_Mo_run_81 (fun z179 hz179 => ?_)
                refine sn_if_le (tgt := 94) hx hb d_Mo_run_84 (by decide) (fun b180 => ?_) (fun b180 => ?_)
                · refine lv_aload_n hx hb d_Mo_run_94 rfl (lv_at hl 0 rfl) ?_
                  refine sv_get (C := "StoryMachineModel") (T := T_Mo) (N := 51) hx hb hts in_Mo hown hK hI 0 kM_0 rfl 26 (by decide) (hts _ mw_1089) rfl d_Mo_run_95 (fun z181 hz181a hz181b => ?_)
                  refine sn_if_eq (tgt := 105) hx hb d_Mo_run_98 (by decide) (fun b182 => ?_) (fun b182 => ?_)
                  · refine sn_iconst hx hb d_Mo_run_105 (by decide) (fun z183 hz183 => ?_)
                    refine sv_put (C := "StoryMachineModel") (T := T_Mo) (N := 51) (ty := .int) hx hb hts in_Mo t_Mo tk_Mo nm_Mo hown hK (sh_in adM_map hAC) hI 0 kM_0 rfl 24 (by decide) (hts _ mw_1087) rfl (by decide +kernel) rfl rfl (Nat.le_of_ble_eq_true rfl) (by omega) (by omega) pM_0_24 d_Mo_run_106 (fun H locs hI => ?_)
                    refine sn_iinc (k := 2) hx hb d_Mo_run_109 hl rfl (by decide) (by decide) (by omega) (by omega) (fun ls z184 hz184 hl => ?_)
                    have hl : lv_has ls 3 [(2, .int z184), (0, .ref (a 0)), (1, .int x1)] := hl
                    refine lv_goto (tgt := 63) hx hb d_Mo_run_112 (by decide) ?_
                    exact ih _ _ _ z184 t63z_th t_tr143 t_dp144 t_zi145 t_co146 t_sh147 t_lt148 f_mf149 hI c150 (by omega) (by omega) (by omega) (by omega) (by omega) (by omega) (by omega) (by omega) (by omega) (lv_sub hl [1, 2, 0] rfl) (by omega)
                  · refine sn_iconst hx hb d_Mo_run_101 (by decide) (fun z185 hz185 => ?_)
                    refine lv_goto (tgt := 106) hx hb d_Mo_run_102 (by decide) ?_
                    refine sv_put (C := "StoryMachineModel") (T := T_Mo) (N := 51) (ty := .int) hx hb hts in_Mo t_Mo tk_Mo nm_Mo hown hK (sh_in adM_map hAC) hI 0 kM_0 rfl 24 (by decide) (hts _ mw_1087) rfl (by decide +kernel) rfl rfl (Nat.le_of_ble_eq_true rfl) (by omega) (by omega) pM_0_24 d_Mo_run_106 (fun H locs hI => ?_)
                    refine sn_iinc (k := 2) hx hb d_Mo_run_109 hl rfl (by decide) (by decide) (by omega) (by omega) (fun ls z186 hz186 hl => ?_)
                    have hl : lv_has ls 3 [(2, .int z186), (0, .ref (a 0)), (1, .int x1)] := hl
                    refine lv_goto (tgt := 63) hx hb d_Mo_run_112 (by decide) ?_
                    exact ih _ _ _ z186 t63z_th t_tr143 t_dp144 t_zi145 t_co146 t_sh147 t_lt148 f_mf149 hI c150 (by omega) (by omega) (by omega) (by omega) (by omega) (by omega) (by omega) (by omega) (by omega) (lv_sub hl [1, 2, 0] rfl) (by omega)
                · omega
      refine lv_iload_n hx hb d_Mo_run_63 rfl (lv_at hl 2 rfl) ?_
      refine lv_iload_n hx hb d_Mo_run_64 rfl (lv_at hl 1 rfl) ?_
      refine sn_icmp_ge (tgt := 115) hx hb d_Mo_run_65 (by decide) (fun b187 => ?_) (fun b187 => ?_)
      · exact j115p _ _ _ v63p_2 t63p_th t63p_tr t63p_dp t63p_zi t63p_co t63p_sh t63p_lt t63p_mf hI hok (by omega) (by omega) (by omega) (by omega) (by omega) (by omega) (by omega) (by omega) (by omega) (lv_sub hl [0, 1, 2] rfl)
      · refine lv_aload_n hx hb d_Mo_run_68 rfl (lv_at hl 0 rfl) ?_
        refine sv_get (C := "StoryMachineModel") (T := T_Mo) (N := 51) hx hb hts in_Mo hown hK hI 0 kM_0 rfl 24 (by decide) (hts _ mw_1087) rfl d_Mo_run_69 (fun z188 hz188a hz188b => ?_)
        refine sn_if_ne (tgt := 115) hx hb d_Mo_run_72 (by decide) (fun b189 => ?_) (fun b189 => ?_)
        · exact j115p _ _ _ v63p_2 t63p_th t63p_tr t63p_dp t63p_zi t63p_co t63p_sh t63p_lt t63p_mf hI hok (by omega) (by omega) (by omega) (by omega) (by omega) (by omega) (by omega) (by omega) (by omega) (lv_sub hl [0, 1, 2] rfl)
        · refine lv_aload_n hx hb d_Mo_run_75 rfl (lv_at hl 0 rfl) ?_
          refine tz_call (A1 := ga (adM a) H.size) (tz_runV (C := "StoryMachineModel") (As := []) (rest := []) ⟨hx, hb, hml, hown, hts⟩ (c_Mo_step l hfl dC dI cI cJ a H.size t63p_th t63p_tr t63p_dp t63p_zi t63p_co t63p_sh t63p_lt ts t63p_mf  hok (by omega)) (tx_cb (n := 0) hts rfl rfl ⟨Nat.le_of_ble_eq_true rfl, Nat.le_of_ble_eq_true rfl⟩ (tx_code.of (hts _ mw_1228)) (hts _ mw_12) (by decide +kernel) (hts _ mw_1225)) (hts _ mw_1227) (hts _ ms_Mo_step) ⟨tz_blind, sv_recv (q0 := 0) hts in_Mo hK hI kM_0 rfl, fun U hU hW => ⟨rfl, by rw [hU], by rw [hU]; exact hI.1, va_K.moved hW.alike hK, hst _ _ hI.2 U hU hW⟩⟩ rfl rfl hl.1 rfl (lv_room (Nat.le_of_ble_eq_true rfl)) d_Mo_run_76 ⟨Nat.le_of_ble_eq_true rfl, Nat.le_of_ble_eq_true rfl⟩) hI.2 (fun q _ h => ga_sub hAC hA0 hI.2 q h) (ga_sub hAC hA0 hI.2) (fun v t H1 locs1 ht hWt hpost _ _ hS => ?_) (fun x t H1 locs1 ht hWt hpost _ _ hS => (hpost.2 x rfl).elim)
          rcases hpost.1 _ rfl with ⟨t_tr190, t_dp191, t_zi192, t_co193, t_sh194, t_lt195, f_mf196, hv, c197, c197_0, c197_1, hI1⟩ | ⟨t_tr198, t_dp199, t_zi200, t_co201, t_sh202, t_lt203, f_mf204, hv, c205, c205_0, c205_1, hI1⟩
          · cases hv
            have hI : sI (dC, dI) vcl cI cJ (gsM a t63p_th t_tr190 t_dp191 t_zi192 t_co193 t_sh194 t_lt195 ts f_mf196) A s.heap H1 locs1 := ⟨by rw [← ht]; exact hI1, hS⟩
            obtain ⟨-, ⟨o206, o207⟩, ⟨o208, o209⟩, ⟨o210, o211⟩, ⟨o212, o213⟩, ⟨o214, o215⟩, ⟨o216, o217⟩, -, -⟩ := id c197
            clear hpost hI1 hS ht hWt
            revert hI; generalize H1 = H; generalize locs1 = locs; intro hI
            refine lv_aload_n hx hb d_Mo_run_79 rfl (lv_at hl 0 rfl) ?_
            refine lv_aload_n hx hb d_Mo_run_80 rfl (lv_at hl 0 rfl) ?_
            refine sv_gete (C := "StoryMachineModel") (T := T_Mo) (N := 51) hx hb hts in_Mo hown hK hI 0 kM_0 rfl 25 (by decide) (hts _ mw_1088) rfl d_Mo_run_81 (fun z218 hz218 => ?_)
            refine sn_if_le (tgt := 94) hx hb d_Mo_run_84 (by decide) (fun b219 => ?_) (fun b219 => ?_)
            · omega
            · refine lv_aload_n hx hb d_Mo_run_87 rfl (lv_at hl 0 rfl) ?_
              refine sv_gete (C := "StoryMachineModel") (T := T_Mo) (N := 51) hx hb hts in_Mo hown hK hI 0 kM_0 rfl 25 (by decide) (hts _ mw_1088) rfl d_Mo_run_88 (fun z220 hz220 => ?_)
              refine lv_goto (tgt := 106) hx hb d_Mo_run_91 (by decide) ?_
              refine sv_put (C := "StoryMachineModel") (T := T_Mo) (N := 51) (ty := .int) hx hb hts in_Mo t_Mo tk_Mo nm_Mo hown hK (sh_in adM_map hAC) hI 0 kM_0 rfl 24 (by decide) (hts _ mw_1087) rfl (by decide +kernel) rfl rfl (Nat.le_of_ble_eq_true rfl) (by omega) (by omega) pM_0_24 d_Mo_run_106 (fun H locs hI => ?_)
              refine sn_iinc (k := 2) hx hb d_Mo_run_109 hl rfl (by decide) (by decide) (by omega) (by omega) (fun ls z221 hz221 hl => ?_)
              have hl : lv_has ls 3 [(2, .int z221), (0, .ref (a 0)), (1, .int x1)] := hl
              refine lv_goto (tgt := 63) hx hb d_Mo_run_112 (by decide) ?_
              exact ih _ _ _ z221 t63p_th t_tr190 t_dp191 t_zi192 t_co193 t_sh194 t_lt195 f_mf196 hI c197 (by omega) (by omega) (by omega) (by omega) (by omega) (by omega) (by omega) (by omega) (by omega) (lv_sub hl [1, 2, 0] rfl) (by omega)
          · cases hv
            have hI : sI (dC, dI) vcl cI cJ (gsM a t63p_th t_tr198 t_dp199 t_zi200 t_co201 t_sh202 t_lt203 ts f_mf204) A s.heap H1 locs1 := ⟨by rw [← ht]; exact hI1, hS⟩
            obtain ⟨-, ⟨o222, o223⟩, ⟨o224, o225⟩, ⟨o226, o227⟩, ⟨o228, o229⟩, ⟨o230, o231⟩, ⟨o232, o233⟩, -, -⟩ := id c205
            clear hpost hI1 hS ht hWt
            revert hI; generalize H1 = H; generalize locs1 = locs; intro hI
            refine lv_aload_n hx hb d_Mo_run_79 rfl (lv_at hl 0 rfl) ?_
            refine lv_aload_n hx hb d_Mo_run_80 rfl (lv_at hl 0 rfl) ?_
            refine sv_gete (C := "StoryMachineModel") (T := T_Mo) (N := 51) hx hb hts in_Mo hown hK hI 0 kM_0 rfl 25 (by decide) (hts _ mw_1088) rfl d_Mo_run_81 (fun z234 hz234 => ?_)
            refine sn_if_le (tgt := 94) hx hb d_Mo_run_84 (by decide) (fun b235 => ?_) (fun b235 => ?_)
            · refine lv_aload_n hx hb d_Mo_run_94 rfl (lv_at hl 0 rfl) ?_
              refine sv_get (C := "StoryMachineModel") (T := T_Mo) (N := 51) hx hb hts in_Mo hown hK hI 0 kM_0 rfl 26 (by decide) (hts _ mw_1089) rfl d_Mo_run_95 (fun z236 hz236a hz236b => ?_)
              refine sn_if_eq (tgt := 105) hx hb d_Mo_run_98 (by decide) (fun b237 => ?_) (fun b237 => ?_)
              · refine sn_iconst hx hb d_Mo_run_105 (by decide) (fun z238 hz238 => ?_)
                refine sv_put (C := "StoryMachineModel") (T := T_Mo) (N := 51) (ty := .int) hx hb hts in_Mo t_Mo tk_Mo nm_Mo hown hK (sh_in adM_map hAC) hI 0 kM_0 rfl 24 (by decide) (hts _ mw_1087) rfl (by decide +kernel) rfl rfl (Nat.le_of_ble_eq_true rfl) (by omega) (by omega) pM_0_24 d_Mo_run_106 (fun H locs hI => ?_)
                refine sn_iinc (k := 2) hx hb d_Mo_run_109 hl rfl (by decide) (by decide) (by omega) (by omega) (fun ls z239 hz239 hl => ?_)
                have hl : lv_has ls 3 [(2, .int z239), (0, .ref (a 0)), (1, .int x1)] := hl
                refine lv_goto (tgt := 63) hx hb d_Mo_run_112 (by decide) ?_
                exact j63z 300 _ _ _ z239 t63p_th t_tr198 t_dp199 t_zi200 t_co201 t_sh202 t_lt203 f_mf204 hI c205 (by omega) (by omega) (by omega) (by omega) (by omega) (by omega) (by omega) (by omega) (by omega) (lv_sub hl [1, 2, 0] rfl) (by omega)
              · refine sn_iconst hx hb d_Mo_run_101 (by decide) (fun z240 hz240 => ?_)
                refine lv_goto (tgt := 106) hx hb d_Mo_run_102 (by decide) ?_
                refine sv_put (C := "StoryMachineModel") (T := T_Mo) (N := 51) (ty := .int) hx hb hts in_Mo t_Mo tk_Mo nm_Mo hown hK (sh_in adM_map hAC) hI 0 kM_0 rfl 24 (by decide) (hts _ mw_1087) rfl (by decide +kernel) rfl rfl (Nat.le_of_ble_eq_true rfl) (by omega) (by omega) pM_0_24 d_Mo_run_106 (fun H locs hI => ?_)
                refine sn_iinc (k := 2) hx hb d_Mo_run_109 hl rfl (by decide) (by decide) (by omega) (by omega) (fun ls z241 hz241 hl => ?_)
                have hl : lv_has ls 3 [(2, .int z241), (0, .ref (a 0)), (1, .int x1)] := hl
                refine lv_goto (tgt := 63) hx hb d_Mo_run_112 (by decide) ?_
                exact j63z 300 _ _ _ z241 t63p_th t_tr198 t_dp199 t_zi200 t_co201 t_sh202 t_lt203 f_mf204 hI c205 (by omega) (by omega) (by omega) (by omega) (by omega) (by omega) (by omega) (by omega) (by omega) (lv_sub hl [1, 2, 0] rfl) (by omega)
            · omega
  have j63z : ∀ (n : Nat) (H : Heap) (locs : List Loc) (ls : Array Slot) (v63z_2 : Int32) (t63z_th t63z_tr t63z_dp t63z_zi t63z_co t63z_sh t63z_lt : Int) (t63z_mf : Nat → Int32), sI (dC, dI) vcl cI cJ (gsM a t63z_th t63z_tr t63z_dp t63z_zi t63z_co t63z_sh t63z_lt ts t63z_mf) A s.heap H locs → okM t63z_th t63z_tr t63z_dp t63z_zi t63z_co t63z_sh t63z_lt ts t63z_mf → 1 ≤ v63z_2.toInt → v63z_2.toInt ≤ 300 → 0 ≤ t63z_th → t63z_th ≤ 0 → 0 ≤ t63z_tr → t63z_tr ≤ 0 → 1 ≤ x1.toInt → x1.toInt ≤ 300 → t63z_sh ≤ sh + 10010 * v63z_2.toInt → lv_has ls 3 [(0, .ref (a 0)), (1, .int x1), (2, .int v63z_2)] → 300 - v63z_2.toInt < (n : Int) → W p l e (headSpec tw_tbl rm_Mo_run).room s m ([.ref (a 0), .int x1] : List Value).toArray below meth c H locs 0 0 Z (F0 m 63 ls []) := by
    intro n
    induction n with
    | zero => intro H locs ls v63z_2 t63z_th t63z_tr t63z_dp t63z_zi t63z_co t63z_sh t63z_lt t63z_mf hI hok g63_0 g63_1 g63_2 g63_3 g63_4 g63_5 g63_6 g63_7 g63_8 hl hme; exfalso; obtain ⟨⟨o242, o243⟩, ⟨o244, o245⟩, ⟨o246, o247⟩, ⟨o248, o249⟩, ⟨o250, o251⟩, ⟨o252, o253⟩, ⟨o254, o255⟩, ⟨o256, o257⟩, -⟩ := id hok; omega
    | succ n ih =>
      intro H locs ls v63z_2 t63z_th t63z_tr t63z_dp t63z_zi t63z_co t63z_sh t63z_lt t63z_mf hI hok g63_0 g63_1 g63_2 g63_3 g63_4 g63_5 g63_6 g63_7 g63_8 hl hme
      obtain ⟨⟨o258, o259⟩, ⟨o260, o261⟩, ⟨o262, o263⟩, ⟨o264, o265⟩, ⟨o266, o267⟩, ⟨o268, o269⟩, ⟨o270, o271⟩, ⟨o272, o273⟩, -⟩ := id hok
      refine lv_iload_n hx hb d_Mo_run_63 rfl (lv_at hl 2 rfl) ?_
      refine lv_iload_n hx hb d_Mo_run_64 rfl (lv_at hl 1 rfl) ?_
      refine sn_icmp_ge (tgt := 115) hx hb d_Mo_run_65 (by decide) (fun b274 => ?_) (fun b274 => ?_)
      · exact j115z _ _ _ v63z_2 t63z_th t63z_tr t63z_dp t63z_zi t63z_co t63z_sh t63z_lt t63z_mf hI hok (by omega) (by omega) (by omega) (by omega) (by omega) (by omega) (by omega) (by omega) (by omega) (lv_sub hl [0, 1, 2] rfl)
      · refine lv_aload_n hx hb d_Mo_run_68 rfl (lv_at hl 0 rfl) ?_
        refine sv_get (C := "StoryMachineModel") (T := T_Mo) (N := 51) hx hb hts in_Mo hown hK hI 0 kM_0 rfl 24 (by decide) (hts _ mw_1087) rfl d_Mo_run_69 (fun z275 hz275a hz275b => ?_)
        refine sn_if_ne (tgt := 115) hx hb d_Mo_run_72 (by decide) (fun b276 => ?_) (fun b276 => ?_)
        · exact j115z _ _ _ v63z_2 t63z_th t63z_tr t63z_dp t63z_zi t63z_co t63z_sh t63z_lt t63z_mf hI hok (by omega) (by omega) (by omega) (by omega) (by omega) (by omega) (by omega) (by omega) (by omega) (lv_sub hl [0, 1, 2] rfl)
        · refine lv_aload_n hx hb d_Mo_run_75 rfl (lv_at hl 0 rfl) ?_
          refine tz_call (A1 := ga (adM a) H.size) (tz_runV (C := "StoryMachineModel") (As := []) (rest := []) ⟨hx, hb, hml, hown, hts⟩ (c_Mo_step l hfl dC dI cI cJ a H.size t63z_th t63z_tr t63z_dp t63z_zi t63z_co t63z_sh t63z_lt ts t63z_mf  hok (by omega)) (tx_cb (n := 0) hts rfl rfl ⟨Nat.le_of_ble_eq_true rfl, Nat.le_of_ble_eq_true rfl⟩ (tx_code.of (hts _ mw_1228)) (hts _ mw_12) (by decide +kernel) (hts _ mw_1225)) (hts _ mw_1227) (hts _ ms_Mo_step) ⟨tz_blind, sv_recv (q0 := 0) hts in_Mo hK hI kM_0 rfl, fun U hU hW => ⟨rfl, by rw [hU], by rw [hU]; exact hI.1, va_K.moved hW.alike hK, hst _ _ hI.2 U hU hW⟩⟩ rfl rfl hl.1 rfl (lv_room (Nat.le_of_ble_eq_true rfl)) d_Mo_run_76 ⟨Nat.le_of_ble_eq_true rfl, Nat.le_of_ble_eq_true rfl⟩) hI.2 (fun q _ h => ga_sub hAC hA0 hI.2 q h) (ga_sub hAC hA0 hI.2) (fun v t H1 locs1 ht hWt hpost _ _ hS => ?_) (fun x t H1 locs1 ht hWt hpost _ _ hS => (hpost.2 x rfl).elim)
          rcases hpost.1 _ rfl with ⟨t_tr277, t_dp278, t_zi279, t_co280, t_sh281, t_lt282, f_mf283, hv, c284, c284_0, c284_1, hI1⟩ | ⟨t_tr285, t_dp286, t_zi287, t_co288, t_sh289, t_lt290, f_mf291, hv, c292, c292_0, c292_1, hI1⟩
          · cases hv
            have hI : sI (dC, dI) vcl cI cJ (gsM a t63z_th t_tr277 t_dp278 t_zi279 t_co280 t_sh281 t_lt282 ts f_mf283) A s.heap H1 locs1 := ⟨by rw [← ht]; exact hI1, hS⟩
            obtain ⟨-, ⟨o293, o294⟩, ⟨o295, o296⟩, ⟨o297, o298⟩, ⟨o299, o300⟩, ⟨o301, o302⟩, ⟨o303, o304⟩, -, -⟩ := id c284
            clear hpost hI1 hS ht hWt
            revert hI; generalize H1 = H; generalize locs1 = locs; intro hI
            refine lv_aload_n hx hb d_Mo_run_79 rfl (lv_at hl 0 rfl) ?_
            refine lv_aload_n hx hb d_Mo_run_80 rfl (lv_at hl 0 rfl) ?_
            refine sv_gete (C := "StoryMachineModel") (T := T_Mo) (N := 51) hx hb hts in_Mo hown hK hI 0 kM_0 rfl 25 (by decide) (hts _ mw_1088) rfl d_Mo_run_81 (fun z305 hz305 => ?_)
            refine sn_if_le (tgt := 94) hx hb d_Mo_run_84 (by decide) (fun b306 => ?_) (fun b306 => ?_)
            · omega
            · refine lv_aload_n hx hb d_Mo_run_87 rfl (lv_at hl 0 rfl) ?_
              refine sv_gete (C := "StoryMachineModel") (T := T_Mo) (N := 51) hx hb hts in_Mo hown hK hI 0 kM_0 rfl 25 (by decide) (hts _ mw_1088) rfl d_Mo_run_88 (fun z307 hz307 => ?_)
              refine lv_goto (tgt := 106) hx hb d_Mo_run_91 (by decide) ?_
              refine sv_put (C := "StoryMachineModel") (T := T_Mo) (N := 51) (ty := .int) hx hb hts in_Mo t_Mo tk_Mo nm_Mo hown hK (sh_in adM_map hAC) hI 0 kM_0 rfl 24 (by decide) (hts _ mw_1087) rfl (by decide +kernel) rfl rfl (Nat.le_of_ble_eq_true rfl) (by omega) (by omega) pM_0_24 d_Mo_run_106 (fun H locs hI => ?_)
              refine sn_iinc (k := 2) hx hb d_Mo_run_109 hl rfl (by decide) (by decide) (by omega) (by omega) (fun ls z308 hz308 hl => ?_)
              have hl : lv_has ls 3 [(2, .int z308), (0, .ref (a 0)), (1, .int x1)] := hl
              refine lv_goto (tgt := 63) hx hb d_Mo_run_112 (by decide) ?_
              exact j63p 300 _ _ _ z308 t63z_th t_tr277 t_dp278 t_zi279 t_co280 t_sh281 t_lt282 f_mf283 hI c284 (by omega) (by omega) (by omega) (by omega) (by omega) (by omega) (by omega) (by omega) (by omega) (lv_sub hl [1, 2, 0] rfl) (by omega)
          · cases hv
            have hI : sI (dC, dI) vcl cI cJ (gsM a t63z_th t_tr285 t_dp286 t_zi287 t_co288 t_sh289 t_lt290 ts f_mf291) A s.heap H1 locs1 := ⟨by rw [← ht]; exact hI1, hS⟩
            obtain ⟨-, ⟨o309, o310⟩, ⟨o311, o312⟩, ⟨o313, o314⟩, ⟨o315, o316⟩, ⟨o317, o318⟩, ⟨o319, o320⟩, -, -⟩ := id c292
            clear hpost hI1 hS ht hWt
            revert hI; generalize H1 = H; generalize locs1 = locs; intro hI
            refine lv_aload_n hx hb d_Mo_run_79 rfl (lv_at hl 0 rfl) ?_
            refine lv_aload_n hx hb d_Mo_run_80 rfl (lv_at hl 0 rfl) ?_
            refine sv_gete (C := "StoryMachineModel") (T := T_Mo) (N := 51) hx hb hts in_Mo hown hK hI 0 kM_0 rfl 25 (by decide) (hts _ mw_1088) rfl d_Mo_run_81 (fun z321 hz321 => ?_)
            refine sn_if_le (tgt := 94) hx hb d_Mo_run_84 (by decide) (fun b322 => ?_) (fun b322 => ?_)
            · refine lv_aload_n hx hb d_Mo_run_94 rfl (lv_at hl 0 rfl) ?_
              refine sv_get (C := "StoryMachineModel") (T := T_Mo) (N := 51) hx hb hts in_Mo hown hK hI 0 kM_0 rfl 26 (by decide) (hts _ mw_1089) rfl d_Mo_run_95 (fun z323 hz323a hz323b => ?_)
              refine sn_if_eq (tgt := 105) hx hb d_Mo_run_98 (by decide) (fun b324 => ?_) (fun b324 => ?_)
              · refine sn_iconst hx hb d_Mo_run_105 (by decide) (fun z325 hz325 => ?_)
                refine sv_put (C := "StoryMachineModel") (T := T_Mo) (N := 51) (ty := .int) hx hb hts in_Mo t_Mo tk_Mo nm_Mo hown hK (sh_in adM_map hAC) hI 0 kM_0 rfl 24 (by decide) (hts _ mw_1087) rfl (by decide +kernel) rfl rfl (Nat.le_of_ble_eq_true rfl) (by omega) (by omega) pM_0_24 d_Mo_run_106 (fun H locs hI => ?_)
                refine sn_iinc (k := 2) hx hb d_Mo_run_109 hl rfl (by decide) (by decide) (by omega) (by omega) (fun ls z326 hz326 hl => ?_)
                have hl : lv_has ls 3 [(2, .int z326), (0, .ref (a 0)), (1, .int x1)] := hl
                refine lv_goto (tgt := 63) hx hb d_Mo_run_112 (by decide) ?_
                exact ih _ _ _ z326 t63z_th t_tr285 t_dp286 t_zi287 t_co288 t_sh289 t_lt290 f_mf291 hI c292 (by omega) (by omega) (by omega) (by omega) (by omega) (by omega) (by omega) (by omega) (by omega) (lv_sub hl [1, 2, 0] rfl) (by omega)
              · refine sn_iconst hx hb d_Mo_run_101 (by decide) (fun z327 hz327 => ?_)
                refine lv_goto (tgt := 106) hx hb d_Mo_run_102 (by decide) ?_
                refine sv_put (C := "StoryMachineModel") (T := T_Mo) (N := 51) (ty := .int) hx hb hts in_Mo t_Mo tk_Mo nm_Mo hown hK (sh_in adM_map hAC) hI 0 kM_0 rfl 24 (by decide) (hts _ mw_1087) rfl (by decide +kernel) rfl rfl (Nat.le_of_ble_eq_true rfl) (by omega) (by omega) pM_0_24 d_Mo_run_106 (fun H locs hI => ?_)
                refine sn_iinc (k := 2) hx hb d_Mo_run_109 hl rfl (by decide) (by decide) (by omega) (by omega) (fun ls z328 hz328 hl => ?_)
                have hl : lv_has ls 3 [(2, .int z328), (0, .ref (a 0)), (1, .int x1)] := hl
                refine lv_goto (tgt := 63) hx hb d_Mo_run_112 (by decide) ?_
                exact ih _ _ _ z328 t63z_th t_tr285 t_dp286 t_zi287 t_co288 t_sh289 t_lt290 f_mf291 hI c292 (by omega) (by omega) (by omega) (by omega) (by omega) (by omega) (by omega) (by omega) (by omega) (lv_sub hl [1, 2, 0] rfl) (by omega)
            · omega
  have j63u : ∀ (H : Heap) (locs : List Loc) (ls : Array Slot) (v63u_2 : Int32) (t63u_th : Int), sI (dC, dI) vcl cI cJ (gsM a t63u_th tr dp zi co sh lt ts mf) A s.heap H locs → okM t63u_th tr dp zi co sh lt ts mf → 0 ≤ v63u_2.toInt → v63u_2.toInt ≤ 0 → 0 ≤ t63u_th → t63u_th ≤ 0 → 1 ≤ x1.toInt → x1.toInt ≤ 300 → sh ≤ sh + 10010 * v63u_2.toInt → lv_has ls 3 [(0, .ref (a 0)), (1, .int x1), (2, .int v63u_2)] → W p l e (headSpec tw_tbl rm_Mo_run).room s m ([.ref (a 0), .int x1] : List Value).toArray below meth c H locs 0 0 Z (F0 m 63 ls []) := by
    intro H locs ls v63u_2 t63u_th hI hok g63_0 g63_1 g63_2 g63_3 g63_4 g63_5 g63_6 hl
    obtain ⟨⟨o329, o330⟩, ⟨o331, o332⟩, ⟨o333, o334⟩, ⟨o335, o336⟩, ⟨o337, o338⟩, ⟨o339, o340⟩, ⟨o341, o342⟩, ⟨o343, o344⟩, -⟩ := id hok
    refine lv_iload_n hx hb d_Mo_run_63 rfl (lv_at hl 2 rfl) ?_
    refine lv_iload_n hx hb d_Mo_run_64 rfl (lv_at hl 1 rfl) ?_
    refine sn_icmp_ge (tgt := 115) hx hb d_Mo_run_65 (by decide) (fun b345 => ?_) (fun b345 => ?_)
    · omega
    · refine lv_aload_n hx hb d_Mo_run_68 rfl (lv_at hl 0 rfl) ?_
      refine sv_get (C := "StoryMachineModel") (T := T_Mo) (N := 51) hx hb hts in_Mo hown hK hI 0 kM_0 rfl 24 (by decide) (hts _ mw_1087) rfl d_Mo_run_69 (fun z346 hz346a hz346b => ?_)
      refine sn_if_ne (tgt := 115) hx hb d_Mo_run_72 (by decide) (fun b347 => ?_) (fun b347 => ?_)
      · exact j115u _ _ _ v63u_2 t63u_th hI hok (by omega) (by omega) (by omega) (by omega) (by omega) (by omega) (by omega) (lv_sub hl [0, 1, 2] rfl)
      · refine lv_aload_n hx hb d_Mo_run_75 rfl (lv_at hl 0 rfl) ?_
        refine tz_call (A1 := ga (adM a) H.size) (tz_runV (C := "StoryMachineModel") (As := []) (rest := []) ⟨hx, hb, hml, hown, hts⟩ (c_Mo_step l hfl dC dI cI cJ a H.size t63u_th tr dp zi co sh lt ts mf  hok (by omega)) (tx_cb (n := 0) hts rfl rfl ⟨Nat.le_of_ble_eq_true rfl, Nat.le_of_ble_eq_true rfl⟩ (tx_code.of (hts _ mw_1228)) (hts _ mw_12) (by decide +kernel) (hts _ mw_1225)) (hts _ mw_1227) (hts _ ms_Mo_step) ⟨tz_blind, sv_recv (q0 := 0) hts in_Mo hK hI kM_0 rfl, fun U hU hW => ⟨rfl, by rw [hU], by rw [hU]; exact hI.1, va_K.moved hW.alike hK, hst _ _ hI.2 U hU hW⟩⟩ rfl rfl hl.1 rfl (lv_room (Nat.le_of_ble_eq_true rfl)) d_Mo_run_76 ⟨Nat.le_of_ble_eq_true rfl, Nat.le_of_ble_eq_true rfl⟩) hI.2 (fun q _ h => ga_sub hAC hA0 hI.2 q h) (ga_sub hAC hA0 hI.2) (fun v t H1 locs1 ht hWt hpost _ _ hS => ?_) (fun x t H1 locs1 ht hWt hpost _ _ hS => (hpost.2 x rfl).elim)
        rcases hpost.1 _ rfl with ⟨t_tr348, t_dp349, t_zi350, t_co351, t_sh352, t_lt353, f_mf354, hv, c355, c355_0, c355_1, hI1⟩ | ⟨t_tr356, t_dp357, t_zi358, t_co359, t_sh360, t_lt361, f_mf362, hv, c363, c363_0, c363_1, hI1⟩
        · cases hv
          have hI : sI (dC, dI) vcl cI cJ (gsM a t63u_th t_tr348 t_dp349 t_zi350 t_co351 t_sh352 t_lt353 ts f_mf354) A s.heap H1 locs1 := ⟨by rw [← ht]; exact hI1, hS⟩
          obtain ⟨-, ⟨o364, o365⟩, ⟨o366, o367⟩, ⟨o368, o369⟩, ⟨o370, o371⟩, ⟨o372, o373⟩, ⟨o374, o375⟩, -, -⟩ := id c355
          clear hpost hI1 hS ht hWt
          revert hI; generalize H1 = H; generalize locs1 = locs; intro hI
          refine lv_aload_n hx hb d_Mo_run_79 rfl (lv_at hl 0 rfl) ?_
          refine lv_aload_n hx hb d_Mo_run_80 rfl (lv_at hl 0 rfl) ?_
          refine sv_gete (C := "StoryMachineModel") (T := T_Mo) (N := 51) hx hb hts in_Mo hown hK hI 0 kM_0 rfl 25 (by decide) (hts _ mw_1088) rfl d_Mo_run_81 (fun z376 hz376 => ?_)
          refine sn_if_le (tgt := 94) hx hb d_Mo_run_84 (by decide) (fun b377 => ?_) (fun b377 => ?_)
          · omega
          · refine lv_aload_n hx hb d_Mo_run_87 rfl (lv_at hl 0 rfl) ?_
            refine sv_gete (C := "StoryMachineModel") (T := T_Mo) (N := 51) hx hb hts in_Mo hown hK hI 0 kM_0 rfl 25 (by decide) (hts _ mw_1088) rfl d_Mo_run_88 (fun z378 hz378 => ?_)
            refine lv_goto (tgt := 106) hx hb d_Mo_run_91 (by decide) ?_
            refine sv_put (C := "StoryMachineModel") (T := T_Mo) (N := 51) (ty := .int) hx hb hts in_Mo t_Mo tk_Mo nm_Mo hown hK (sh_in adM_map hAC) hI 0 kM_0 rfl 24 (by decide) (hts _ mw_1087) rfl (by decide +kernel) rfl rfl (Nat.le_of_ble_eq_true rfl) (by omega) (by omega) pM_0_24 d_Mo_run_106 (fun H locs hI => ?_)
            refine sn_iinc (k := 2) hx hb d_Mo_run_109 hl rfl (by decide) (by decide) (by omega) (by omega) (fun ls z379 hz379 hl => ?_)
            have hl : lv_has ls 3 [(2, .int z379), (0, .ref (a 0)), (1, .int x1)] := hl
            refine lv_goto (tgt := 63) hx hb d_Mo_run_112 (by decide) ?_
            exact j63p 300 _ _ _ z379 t63u_th t_tr348 t_dp349 t_zi350 t_co351 t_sh352 t_lt353 f_mf354 hI c355 (by omega) (by omega) (by omega) (by omega) (by omega) (by omega) (by omega) (by omega) (by omega) (lv_sub hl [1, 2, 0] rfl) (by omega)
        · cases hv
          have hI : sI (dC, dI) vcl cI cJ (gsM a t63u_th t_tr356 t_dp357 t_zi358 t_co359 t_sh360 t_lt361 ts f_mf362) A s.heap H1 locs1 := ⟨by rw [← ht]; exact hI1, hS⟩
          obtain ⟨-, ⟨o380, o381⟩, ⟨o382, o383⟩, ⟨o384, o385⟩, ⟨o386, o387⟩, ⟨o388, o389⟩, ⟨o390, o391⟩, -, -⟩ := id c363
          clear hpost hI1 hS ht hWt
          revert hI; generalize H1 = H; generalize locs1 = locs; intro hI
          refine lv_aload_n hx hb d_Mo_run_79 rfl (lv_at hl 0 rfl) ?_
          refine lv_aload_n hx hb d_Mo_run_80 rfl (lv_at hl 0 rfl) ?_
          refine sv_gete (C := "StoryMachineModel") (T := T_Mo) (N := 51) hx hb hts in_Mo hown hK hI 0 kM_0 rfl 25 (by decide) (hts _ mw_1088) rfl d_Mo_run_81 (fun z392 hz392 => ?_)
          refine sn_if_le (tgt := 94) hx hb d_Mo_run_84 (by decide) (fun b393 => ?_) (fun b393 => ?_)
          · refine lv_aload_n hx hb d_Mo_run_94 rfl (lv_at hl 0 rfl) ?_
            refine sv_get (C := "StoryMachineModel") (T := T_Mo) (N := 51) hx hb hts in_Mo hown hK hI 0 kM_0 rfl 26 (by decide) (hts _ mw_1089) rfl d_Mo_run_95 (fun z394 hz394a hz394b => ?_)
            refine sn_if_eq (tgt := 105) hx hb d_Mo_run_98 (by decide) (fun b395 => ?_) (fun b395 => ?_)
            · refine sn_iconst hx hb d_Mo_run_105 (by decide) (fun z396 hz396 => ?_)
              refine sv_put (C := "StoryMachineModel") (T := T_Mo) (N := 51) (ty := .int) hx hb hts in_Mo t_Mo tk_Mo nm_Mo hown hK (sh_in adM_map hAC) hI 0 kM_0 rfl 24 (by decide) (hts _ mw_1087) rfl (by decide +kernel) rfl rfl (Nat.le_of_ble_eq_true rfl) (by omega) (by omega) pM_0_24 d_Mo_run_106 (fun H locs hI => ?_)
              refine sn_iinc (k := 2) hx hb d_Mo_run_109 hl rfl (by decide) (by decide) (by omega) (by omega) (fun ls z397 hz397 hl => ?_)
              have hl : lv_has ls 3 [(2, .int z397), (0, .ref (a 0)), (1, .int x1)] := hl
              refine lv_goto (tgt := 63) hx hb d_Mo_run_112 (by decide) ?_
              exact j63z 300 _ _ _ z397 t63u_th t_tr356 t_dp357 t_zi358 t_co359 t_sh360 t_lt361 f_mf362 hI c363 (by omega) (by omega) (by omega) (by omega) (by omega) (by omega) (by omega) (by omega) (by omega) (lv_sub hl [1, 2, 0] rfl) (by omega)
            · refine sn_iconst hx hb d_Mo_run_101 (by decide) (fun z398 hz398 => ?_)
              refine lv_goto (tgt := 106) hx hb d_Mo_run_102 (by decide) ?_
              refine sv_put (C := "StoryMachineModel") (T := T_Mo) (N := 51) (ty := .int) hx hb hts in_Mo t_Mo tk_Mo nm_Mo hown hK (sh_in adM_map hAC) hI 0 kM_0 rfl 24 (by decide) (hts _ mw_1087) rfl (by decide +kernel) rfl rfl (Nat.le_of_ble_eq_true rfl) (by omega) (by omega) pM_0_24 d_Mo_run_106 (fun H locs hI => ?_)
              refine sn_iinc (k := 2) hx hb d_Mo_run_109 hl rfl (by decide) (by decide) (by omega) (by omega) (fun ls z399 hz399 hl => ?_)
              have hl : lv_has ls 3 [(2, .int z399), (0, .ref (a 0)), (1, .int x1)] := hl
              refine lv_goto (tgt := 63) hx hb d_Mo_run_112 (by decide) ?_
              exact j63z 300 _ _ _ z399 t63u_th t_tr356 t_dp357 t_zi358 t_co359 t_sh360 t_lt361 f_mf362 hI c363 (by omega) (by omega) (by omega) (by omega) (by omega) (by omega) (by omega) (by omega) (by omega) (lv_sub hl [1, 2, 0] rfl) (by omega)
          · omega
  refine lv_aload_n hx hb d_Mo_run_0 rfl (lv_at hl 0 rfl) ?_
  refine lv_iload_n hx hb d_Mo_run_1 rfl (lv_at hl 1 rfl) ?_
  refine sn_iconst hx hb d_Mo_run_2 (by decide) (fun z400 hz400 => ?_)
  refine sn_icmp_lt (tgt := 13) hx hb d_Mo_run_3 (by decide) (fun b401 => ?_) (fun b401 => ?_)
  · refine sn_iconst hx hb d_Mo_run_13 (by decide) (fun z402 hz402 => ?_)
    refine lv_goto (tgt := 44) hx hb d_Mo_run_14 (by decide) ?_
    refine sv_put (C := "StoryMachineModel") (T := T_Mo) (N := 51) (ty := .int) hx hb hts in_Mo t_Mo tk_Mo nm_Mo hown hK (sh_in adM_map hAC) hI 0 kM_0 rfl 0 (by decide) (hts _ mw_1063) rfl (by decide +kernel) rfl rfl (Nat.le_of_ble_eq_true rfl) (Int.le_refl _) (Int.le_refl _) pM_0_0 d_Mo_run_44 (fun H locs hI => ?_)
    refine lv_aload_n hx hb d_Mo_run_47 rfl (lv_at hl 0 rfl) ?_
    refine sv_gete (C := "StoryMachineModel") (T := T_Mo) (N := 51) hx hb hts in_Mo hown hK hI 0 kM_0 rfl 0 (by decide) (hts _ mw_1063) rfl d_Mo_run_48 (fun z403 hz403 => ?_)
    refine sn_if_le (tgt := 56) hx hb d_Mo_run_51 (by decide) (fun b404 => ?_) (fun b404 => ?_)
    · omega
    · refine sn_iconst hx hb d_Mo_run_54 (by decide) (fun z405 hz405 => ?_)
      have ho406 : okM z402.toInt tr dp zi co sh lt ts mf := ⟨⟨by omega, by omega⟩, hok.2.1, hok.2.2.1, hok.2.2.2.1, hok.2.2.2.2.1, hok.2.2.2.2.2.1, hok.2.2.2.2.2.2.1, hok.2.2.2.2.2.2.2.1, hok.2.2.2.2.2.2.2.2⟩
      subst hZ
      exact tz_ret (W.iret (v := z405) hx hb hr (fun t ht hW => ⟨⟨fun v9 hv9 => by cases hv9; exact (Or.inr (Or.inl ⟨z405, z402.toInt, rfl, ho406, by omega, by omega, by rw [ht]; exact hI.1⟩)), fun x9 hx9 => (by cases hx9)⟩, hI.2.F ht⟩) hI.2.2.2 d_Mo_run_55)
  · refine lv_iload_n hx hb d_Mo_run_6 rfl (lv_at hl 1 rfl) ?_
    refine sn_sipush hx hb d_Mo_run_7 (by decide) (fun z407 hz407 => ?_)
    refine sn_icmp_le (tgt := 17) hx hb d_Mo_run_10 (by decide) (fun b408 => ?_) (fun b408 => ?_)
    · refine lv_aload_n hx hb d_Mo_run_17 rfl (lv_at hl 0 rfl) ?_
      refine sv_get (C := "StoryMachineModel") (T := T_Mo) (N := 51) hx hb hts in_Mo hown hK hI 0 kM_0 rfl 23 (by decide) (hts _ mw_1086) rfl d_Mo_run_18 (fun z409 hz409a hz409b => ?_)
      refine sn_if_eq (tgt := 39) hx hb d_Mo_run_21 (by decide) (fun b410 => ?_) (fun b410 => ?_)
      · refine sn_iconst hx hb d_Mo_run_39 (by decide) (fun z411 hz411 => ?_)
        refine lv_goto (tgt := 44) hx hb d_Mo_run_40 (by decide) ?_
        refine sv_put (C := "StoryMachineModel") (T := T_Mo) (N := 51) (ty := .int) hx hb hts in_Mo t_Mo tk_Mo nm_Mo hown hK (sh_in adM_map hAC) hI 0 kM_0 rfl 0 (by decide) (hts _ mw_1063) rfl (by decide +kernel) rfl rfl (Nat.le_of_ble_eq_true rfl) (Int.le_refl _) (Int.le_refl _) pM_0_0 d_Mo_run_44 (fun H locs hI => ?_)
        refine lv_aload_n hx hb d_Mo_run_47 rfl (lv_at hl 0 rfl) ?_
        refine sv_gete (C := "StoryMachineModel") (T := T_Mo) (N := 51) hx hb hts in_Mo hown hK hI 0 kM_0 rfl 0 (by decide) (hts _ mw_1063) rfl d_Mo_run_48 (fun z412 hz412 => ?_)
        refine sn_if_le (tgt := 56) hx hb d_Mo_run_51 (by decide) (fun b413 => ?_) (fun b413 => ?_)
        · omega
        · refine sn_iconst hx hb d_Mo_run_54 (by decide) (fun z414 hz414 => ?_)
          have ho415 : okM z411.toInt tr dp zi co sh lt ts mf := ⟨⟨by omega, by omega⟩, hok.2.1, hok.2.2.1, hok.2.2.2.1, hok.2.2.2.2.1, hok.2.2.2.2.2.1, hok.2.2.2.2.2.2.1, hok.2.2.2.2.2.2.2.1, hok.2.2.2.2.2.2.2.2⟩
          subst hZ
          exact tz_ret (W.iret (v := z414) hx hb hr (fun t ht hW => ⟨⟨fun v9 hv9 => by cases hv9; exact (Or.inr (Or.inl ⟨z414, z411.toInt, rfl, ho415, by omega, by omega, by rw [ht]; exact hI.1⟩)), fun x9 hx9 => (by cases hx9)⟩, hI.2.F ht⟩) hI.2.2.2 d_Mo_run_55)
      · refine lv_aload_n hx hb d_Mo_run_24 rfl (lv_at hl 0 rfl) ?_
        refine sv_get (C := "StoryMachineModel") (T := T_Mo) (N := 51) hx hb hts in_Mo hown hK hI 0 kM_0 rfl 24 (by decide) (hts _ mw_1087) rfl d_Mo_run_25 (fun z416 hz416a hz416b => ?_)
        refine sn_if_eq (tgt := 43) hx hb d_Mo_run_28 (by decide) (fun b417 => ?_) (fun b417 => ?_)
        · refine sn_iconst hx hb d_Mo_run_43 (by decide) (fun z418 hz418 => ?_)
          refine sv_put (C := "StoryMachineModel") (T := T_Mo) (N := 51) (ty := .int) hx hb hts in_Mo t_Mo tk_Mo nm_Mo hown hK (sh_in adM_map hAC) hI 0 kM_0 rfl 0 (by decide) (hts _ mw_1063) rfl (by decide +kernel) rfl rfl (Nat.le_of_ble_eq_true rfl) (Int.le_refl _) (Int.le_refl _) pM_0_0 d_Mo_run_44 (fun H locs hI => ?_)
          refine lv_aload_n hx hb d_Mo_run_47 rfl (lv_at hl 0 rfl) ?_
          refine sv_gete (C := "StoryMachineModel") (T := T_Mo) (N := 51) hx hb hts in_Mo hown hK hI 0 kM_0 rfl 0 (by decide) (hts _ mw_1063) rfl d_Mo_run_48 (fun z419 hz419 => ?_)
          refine sn_if_le (tgt := 56) hx hb d_Mo_run_51 (by decide) (fun b420 => ?_) (fun b420 => ?_)
          · refine lv_aload_n hx hb d_Mo_run_56 rfl (lv_at hl 0 rfl) ?_
            refine sn_iconst hx hb d_Mo_run_57 (by decide) (fun z421 hz421 => ?_)
            refine sv_put (C := "StoryMachineModel") (T := T_Mo) (N := 51) (ty := .int) hx hb hts in_Mo t_Mo tk_Mo nm_Mo hown hK (sh_in adM_map hAC) hI 0 kM_0 rfl 24 (by decide) (hts _ mw_1087) rfl (by decide +kernel) rfl rfl (Nat.le_of_ble_eq_true rfl) (by omega) (by omega) pM_0_24 d_Mo_run_58 (fun H locs hI => ?_)
            refine sn_iconst hx hb d_Mo_run_61 (by decide) (fun z422 hz422 => ?_)
            refine lv_istore_n (lv' := [(2, .int z422), (0, .ref (a 0)), (1, .int x1)]) hx hb d_Mo_run_62 rfl hl (by decide) rfl (fun ls hl => ?_)
            have ho423 : okM z418.toInt tr dp zi co sh lt ts mf := ⟨⟨by omega, by omega⟩, hok.2.1, hok.2.2.1, hok.2.2.2.1, hok.2.2.2.2.1, hok.2.2.2.2.2.1, hok.2.2.2.2.2.2.1, hok.2.2.2.2.2.2.2.1, hok.2.2.2.2.2.2.2.2⟩
            exact j63u _ _ _ z422 z418.toInt hI ho423 (by omega) (by omega) (by omega) (by omega) (by omega) (by omega) (by omega) (lv_sub hl [1, 2, 0] rfl)
          · omega
        · refine lv_aload_n hx hb d_Mo_run_31 rfl (lv_at hl 0 rfl) ?_
          refine sv_get (C := "StoryMachineModel") (T := T_Mo) (N := 51) hx hb hts in_Mo hown hK hI 0 kM_0 rfl 24 (by decide) (hts _ mw_1087) rfl d_Mo_run_32 (fun z424 hz424a hz424b => ?_)
          refine sn_iconst hx hb d_Mo_run_35 (by decide) (fun z425 hz425 => ?_)
          refine sn_icmp_eq (tgt := 43) hx hb d_Mo_run_36 (by decide) (fun b426 => ?_) (fun b426 => ?_)
          · refine sn_iconst hx hb d_Mo_run_43 (by decide) (fun z427 hz427 => ?_)
            refine sv_put (C := "StoryMachineModel") (T := T_Mo) (N := 51) (ty := .int) hx hb hts in_Mo t_Mo tk_Mo nm_Mo hown hK (sh_in adM_map hAC) hI 0 kM_0 rfl 0 (by decide) (hts _ mw_1063) rfl (by decide +kernel) rfl rfl (Nat.le_of_ble_eq_true rfl) (Int.le_refl _) (Int.le_refl _) pM_0_0 d_Mo_run_44 (fun H locs hI => ?_)
            refine lv_aload_n hx hb d_Mo_run_47 rfl (lv_at hl 0 rfl) ?_
            refine sv_gete (C := "StoryMachineModel") (T := T_Mo) (N := 51) hx hb hts in_Mo hown hK hI 0 kM_0 rfl 0 (by decide) (hts _ mw_1063) rfl d_Mo_run_48 (fun z428 hz428 => ?_)
            refine sn_if_le (tgt := 56) hx hb d_Mo_run_51 (by decide) (fun b429 => ?_) (fun b429 => ?_)
            · refine lv_aload_n hx hb d_Mo_run_56 rfl (lv_at hl 0 rfl) ?_
              refine sn_iconst hx hb d_Mo_run_57 (by decide) (fun z430 hz430 => ?_)
              refine sv_put (C := "StoryMachineModel") (T := T_Mo) (N := 51) (ty := .int) hx hb hts in_Mo t_Mo tk_Mo nm_Mo hown hK (sh_in adM_map hAC) hI 0 kM_0 rfl 24 (by decide) (hts _ mw_1087) rfl (by decide +kernel) rfl rfl (Nat.le_of_ble_eq_true rfl) (by omega) (by omega) pM_0_24 d_Mo_run_58 (fun H locs hI => ?_)
              refine sn_iconst hx hb d_Mo_run_61 (by decide) (fun z431 hz431 => ?_)
              refine lv_istore_n (lv' := [(2, .int z431), (0, .ref (a 0)), (1, .int x1)]) hx hb d_Mo_run_62 rfl hl (by decide) rfl (fun ls hl => ?_)
              have ho432 : okM z427.toInt tr dp zi co sh lt ts mf := ⟨⟨by omega, by omega⟩, hok.2.1, hok.2.2.1, hok.2.2.2.1, hok.2.2.2.2.1, hok.2.2.2.2.2.1, hok.2.2.2.2.2.2.1, hok.2.2.2.2.2.2.2.1, hok.2.2.2.2.2.2.2.2⟩
              exact j63u _ _ _ z431 z427.toInt hI ho432 (by omega) (by omega) (by omega) (by omega) (by omega) (by omega) (by omega) (lv_sub hl [1, 2, 0] rfl)
            · omega
          · refine sn_iconst hx hb d_Mo_run_39 (by decide) (fun z433 hz433 => ?_)
            refine lv_goto (tgt := 44) hx hb d_Mo_run_40 (by decide) ?_
            refine sv_put (C := "StoryMachineModel") (T := T_Mo) (N := 51) (ty := .int) hx hb hts in_Mo t_Mo tk_Mo nm_Mo hown hK (sh_in adM_map hAC) hI 0 kM_0 rfl 0 (by decide) (hts _ mw_1063) rfl (by decide +kernel) rfl rfl (Nat.le_of_ble_eq_true rfl) (Int.le_refl _) (Int.le_refl _) pM_0_0 d_Mo_run_44 (fun H locs hI => ?_)
            refine lv_aload_n hx hb d_Mo_run_47 rfl (lv_at hl 0 rfl) ?_
            refine sv_gete (C := "StoryMachineModel") (T := T_Mo) (N := 51) hx hb hts in_Mo hown hK hI 0 kM_0 rfl 0 (by decide) (hts _ mw_1063) rfl d_Mo_run_48 (fun z434 hz434 => ?_)
            refine sn_if_le (tgt := 56) hx hb d_Mo_run_51 (by decide) (fun b435 => ?_) (fun b435 => ?_)
            · omega
            · refine sn_iconst hx hb d_Mo_run_54 (by decide) (fun z436 hz436 => ?_)
              have ho437 : okM z433.toInt tr dp zi co sh lt ts mf := ⟨⟨by omega, by omega⟩, hok.2.1, hok.2.2.1, hok.2.2.2.1, hok.2.2.2.2.1, hok.2.2.2.2.2.1, hok.2.2.2.2.2.2.1, hok.2.2.2.2.2.2.2.1, hok.2.2.2.2.2.2.2.2⟩
              subst hZ
              exact tz_ret (W.iret (v := z436) hx hb hr (fun t ht hW => ⟨⟨fun v9 hv9 => by cases hv9; exact (Or.inr (Or.inl ⟨z436, z433.toInt, rfl, ho437, by omega, by omega, by rw [ht]; exact hI.1⟩)), fun x9 hx9 => (by cases hx9)⟩, hI.2.F ht⟩) hI.2.2.2 d_Mo_run_55)
    · refine sn_iconst hx hb d_Mo_run_13 (by decide) (fun z438 hz438 => ?_)
      refine lv_goto (tgt := 44) hx hb d_Mo_run_14 (by decide) ?_
      refine sv_put (C := "StoryMachineModel") (T := T_Mo) (N := 51) (ty := .int) hx hb hts in_Mo t_Mo tk_Mo nm_Mo hown hK (sh_in adM_map hAC) hI 0 kM_0 rfl 0 (by decide) (hts _ mw_1063) rfl (by decide +kernel) rfl rfl (Nat.le_of_ble_eq_true rfl) (Int.le_refl _) (Int.le_refl _) pM_0_0 d_Mo_run_44 (fun H locs hI => ?_)
      refine lv_aload_n hx hb d_Mo_run_47 rfl (lv_at hl 0 rfl) ?_
      refine sv_gete (C := "StoryMachineModel") (T := T_Mo) (N := 51) hx hb hts in_Mo hown hK hI 0 kM_0 rfl 0 (by decide) (hts _ mw_1063) rfl d_Mo_run_48 (fun z439 hz439 => ?_)
      refine sn_if_le (tgt := 56) hx hb d_Mo_run_51 (by decide) (fun b440 => ?_) (fun b440 => ?_)
      · omega
      · refine sn_iconst hx hb d_Mo_run_54 (by decide) (fun z441 hz441 => ?_)
        have ho442 : okM z438.toInt tr dp zi co sh lt ts mf := ⟨⟨by omega, by omega⟩, hok.2.1, hok.2.2.1, hok.2.2.2.1, hok.2.2.2.2.1, hok.2.2.2.2.2.1, hok.2.2.2.2.2.2.1, hok.2.2.2.2.2.2.2.1, hok.2.2.2.2.2.2.2.2⟩
        subst hZ
        exact tz_ret (W.iret (v := z441) hx hb hr (fun t ht hW => ⟨⟨fun v9 hv9 => by cases hv9; exact (Or.inr (Or.inl ⟨z441, z438.toInt, rfl, ho442, by omega, by omega, by rw [ht]; exact hI.1⟩)), fun x9 hx9 => (by cases hx9)⟩, hI.2.F ht⟩) hI.2.2.2 d_Mo_run_55)
abbrev q_Mo_steps (dC : Nat → ClassId) (dI : Nat → Nat → Nat) (cI cJ : ClassId) (a : Nat → Nat) (th tr dp zi co sh lt ts : Int) (mf : Nat → Int32) : Outcome → State → Prop := fun o t => (∀ v, o = .returned v → ((∃ (z : Int32) (th_ : Int), v = some (.int z) ∧ okM th_ tr dp zi co sh lt ts mf ∧ ((-2147483648) ≤ z.toInt) ∧ (z.toInt ≤ 2147483647) ∧ (th_ ≤ 0) ∧ sh_I (dC, dI) vcl cI cJ (gsM a th_ tr dp zi co sh lt ts mf) t.heap))) ∧ (∀ x, o = .threw x → (False))
def rm_Mo_steps : Room := { frames := 0, cells := 0, slots := 0, locals := 0 }
set_option maxHeartbeats 4000000 in
set_option maxRecDepth 100000 in
theorem c_Mo_steps (l : Launch) (hfl : l.flags = pinnedFlags ++ [noTraceFlag]) (dC : Nat → ClassId) (dI : Nat → Nat → Nat) (cI cJ : ClassId) (a : Nat → Nat) (sz : Nat) (th tr dp zi co sh lt ts : Int) (mf : Nat → Int32) (hok : okM th tr dp zi co sh lt ts mf) : tz_Met l ⟨"StoryMachineModel", "steps", "()I"⟩ tw_tbl rm_Mo_steps (tzP (dC, dI) vcl cI cJ (gsM a th tr dp zi co sh lt ts mf) a (adM a) [.ref (a 0)] sz) (tq_Q (q_Mo_steps dC dI cI cJ a th tr dp zi co sh lt ts mf) (ga (adM a) sz)) 0 0 0 0 (ga (adM a) sz) := by
  refine tz_ofW (cc := prog_13_method_79_code) (maxL := 1) (ret := (some .int)) (by decide) (tx_isM mw_1526) ?_
  intro p e s m args below meth c s₁ B hml hv
  obtain ⟨rfl, hsz, hI0, hK, hst0⟩ := hv
  have hx := B.exec
  have hb := B.bytes
  have hr := B.returns
  have hts := atoms_spec (ws := tw_tbl) B.pre
  have hown : s.vm.findClass "StoryMachineModel" = some m.cls := findClass_of_methodNamed B.named
  have hlocks := B.notSynchronized
  subst hsz
  have hst := fun (H : Heap) (locs : List Loc) (hS : va_S (ga (adM a) s.heap.size) s.heap H locs) (U : State) (hU : U.heap = H) (hW : s.WarmedH U.vm) => zS_all adM_map hI0 hst0 hS hU hW
  have hAC : ∀ q ∈ adM a, ga (adM a) s.heap.size q := fun q h => Or.inl h
  have hA0 : ∀ q, s.heap.size ≤ q → ga (adM a) s.heap.size q := fun q h => Or.inr h
  have hI : sI (dC, dI) vcl cI cJ (gsM a th tr dp zi co sh lt ts mf) (ga (adM a) s.heap.size) s.heap s.heap [] := ⟨hI0, va_S.rf⟩
  clear hI0 hst0
  have hl := lv_entry ([.ref (a 0)]) (n := 1) (Nat.le_of_ble_eq_true rfl)
  rw [lg_entry_eq]
  generalize (lg_sl ([.ref (a 0)]) ++ List.replicate (1 - (lg_sl ([.ref (a 0)])).length) Slot.unset).toArray = ls at hl ⊢
  have hl : lv_has ls 1 [(0, .ref (a 0))] := hl
  generalize hZ : tz_MQ below (tq_Q (q_Mo_steps dC dI cI cJ a th tr dp zi co sh lt ts mf) (ga (adM a) s.heap.size)) ([.ref (a 0)] : List Value).toArray s 0 0 0 0 (ga (adM a) s.heap.size) = Z
  obtain ⟨A, hAe⟩ : ∃ A, A = ga (adM a) s.heap.size := ⟨_, rfl⟩
  rw [← hAe] at hst hAC hA0 hI hZ
  refine sv_start hI (fun H locs hI => ?_)
  obtain ⟨⟨o1, o2⟩, ⟨o3, o4⟩, ⟨o5, o6⟩, ⟨o7, o8⟩, ⟨o9, o10⟩, ⟨o11, o12⟩, ⟨o13, o14⟩, ⟨o15, o16⟩, -⟩ := id hok
  refine lv_aload_n hx hb d_Mo_steps_0 rfl (lv_at hl 0 rfl) ?_
  refine sn_iconst hx hb d_Mo_steps_1 (by decide) (fun z17 hz17 => ?_)
  refine sv_put (C := "StoryMachineModel") (T := T_Mo) (N := 51) (ty := .int) hx hb hts in_Mo t_Mo tk_Mo nm_Mo hown hK (sh_in adM_map hAC) hI 0 kM_0 rfl 0 (by decide) (hts _ mw_1063) rfl (by decide +kernel) rfl rfl (Nat.le_of_ble_eq_true rfl) (Int.le_refl _) (Int.le_refl _) pM_0_0 d_Mo_steps_2 (fun H locs hI => ?_)
  refine lv_aload_n hx hb d_Mo_steps_5 rfl (lv_at hl 0 rfl) ?_
  refine sv_get (C := "StoryMachineModel") (T := T_Mo) (N := 51) hx hb hts in_Mo hown hK hI 0 kM_0 rfl 29 (by decide) (hts _ mw_1092) rfl d_Mo_steps_6 (fun z18 hz18a hz18b => ?_)
  have ho19 : okM z17.toInt tr dp zi co sh lt ts mf := ⟨⟨by omega, by omega⟩, hok.2.1, hok.2.2.1, hok.2.2.2.1, hok.2.2.2.2.1, hok.2.2.2.2.2.1, hok.2.2.2.2.2.2.1, hok.2.2.2.2.2.2.2.1, hok.2.2.2.2.2.2.2.2⟩
  subst hZ
  exact tz_ret (W.iret (v := z18) hx hb hr (fun t ht hW => ⟨⟨fun v9 hv9 => by cases hv9; exact (⟨z18, z17.toInt, rfl, ho19, by omega, by omega, by omega, by rw [ht]; exact hI.1⟩), fun x9 hx9 => (by cases hx9)⟩, hI.2.F ht⟩) hI.2.2.2 d_Mo_steps_9)
