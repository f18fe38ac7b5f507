abbrev q_Mo_poke (dC : Nat → ClassId) (dI : Nat → Nat → Nat) (cI cJ : ClassId) (a : Nat → Nat) (th tr dp zi co sh lt ts : Int) (mf : Nat → Int32) (x1 : Int32) (y2 : Int64) (x4 : Int32) : Outcome → State → Prop := fun o t => (∀ v, o = .returned v → ((∃ (th_ : Int), v = none ∧ okM th_ tr dp zi co sh lt ts mf ∧ (1 ≤ th_) ∧ (th_ ≤ 1) ∧ (x4.toInt < 1 ∨ 8 < x4.toInt ∨ x1.toInt < 0 ∨ 512 < x1.toInt + x4.toInt) ∧ sh_I (dC, dI) vcl cI cJ (gsM a th_ tr dp zi co sh lt ts mf) t.heap) ∨ (∃ (th_ : Int) (mf_ : Nat → Int32), v = none ∧ okM th_ tr dp zi co sh lt ts mf_ ∧ (0 ≤ x1.toInt) ∧ (x1.toInt ≤ 511) ∧ (1 ≤ x4.toInt) ∧ (x4.toInt ≤ 8) ∧ (th_ ≤ 0) ∧ (1 ≤ x4.toInt) ∧ (x4.toInt ≤ 8) ∧ (0 ≤ x1.toInt) ∧ (x1.toInt + x4.toInt ≤ 512) ∧ sh_I (dC, dI) vcl cI cJ (gsM a th_ tr dp zi co sh lt ts mf_) t.heap))) ∧ (∀ x, o = .threw x → (False))
def rm_Mo_poke : Room := { frames := 1, cells := 0, slots := 0, locals := 20 }
set_option maxHeartbeats 4000000 in
set_option maxRecDepth 100000 in
theorem c_Mo_poke (l : Launch) (hfl : l.flags = pinnedFlags ++ [noTraceFlag]) (dC : Nat → ClassId) (dI : Nat → Nat → Nat) (cI cJ : ClassId) (a : Nat → Nat) (sz : Nat) (th tr dp zi co sh lt ts : Int) (mf : Nat → Int32) (x1 : Int32) (y2 : Int64) (x4 : Int32) (hok : okM th tr dp zi co sh lt ts mf) : tz_Met l ⟨"StoryMachineModel", "poke", "(IJI)V"⟩ tw_tbl rm_Mo_poke (tzP (dC, dI) vcl cI cJ (gsM a th tr dp zi co sh lt ts mf) a (adM a) [.ref (a 0), .int x1, .long y2, .int x4] sz) (tq_Q (q_Mo_poke dC dI cI cJ a th tr dp zi co sh lt ts mf x1 y2 x4) (ga (adM a) sz)) 0 0 0 0 (ga (adM a) sz) := by
  refine tz_ofW (cc := prog_13_method_74_code) (maxL := 6) (ret := none) (by decide) (tx_isM mw_1500) ?_
  intro p e s m args below meth c s₁ B hml hv
  obtain ⟨rfl, hsz, hI0, hK, hst0⟩ := hv
  have hx := B.exec
  have hb := B.bytes
  have hr := B.returns
  have hts := atoms_spec (ws := tw_tbl) B.pre
  have hown : s.vm.findClass "StoryMachineModel" = some m.cls := findClass_of_methodNamed B.named
  have hlocks := B.notSynchronized
  subst hsz
  have hst := fun (H : Heap) (locs : List Loc) (hS : va_S (ga (adM a) s.heap.size) s.heap H locs) (U : State) (hU : U.heap = H) (hW : s.WarmedH U.vm) => zS_all adM_map hI0 hst0 hS hU hW
  have hAC : ∀ q ∈ adM a, ga (adM a) s.heap.size q := fun q h => Or.inl h
  have hA0 : ∀ q, s.heap.size ≤ q → ga (adM a) s.heap.size q := fun q h => Or.inr h
  have hI : sI (dC, dI) vcl cI cJ (gsM a th tr dp zi co sh lt ts mf) (ga (adM a) s.heap.size) s.heap s.heap [] := ⟨hI0, va_S.rf⟩
  clear hI0 hst0
  have hl := lv_entry ([.ref (a 0), .int x1, .long y2, .int x4]) (n := 6) (Nat.le_of_ble_eq_true rfl)
  rw [lg_entry_eq]
  generalize (lg_sl ([.ref (a 0), .int x1, .long y2, .int x4]) ++ List.replicate (6 - (lg_sl ([.ref (a 0), .int x1, .long y2, .int x4])).length) Slot.unset).toArray = ls at hl ⊢
  have hl : lv_has ls 6 [(0, .ref (a 0)), (1, .int x1), (2, .long y2), (4, .int x4)] := hl
  generalize hZ : tz_MQ below (tq_Q (q_Mo_poke dC dI cI cJ a th tr dp zi co sh lt ts mf x1 y2 x4) (ga (adM a) s.heap.size)) ([.ref (a 0), .int x1, .long y2, .int x4] : List Value).toArray s 0 0 0 0 (ga (adM a) s.heap.size) = Z
  obtain ⟨A, hAe⟩ : ∃ A, A = ga (adM a) s.heap.size := ⟨_, rfl⟩
  rw [← hAe] at hst hAC hA0 hI hZ
  refine sv_start hI (fun H locs hI => ?_)
  obtain ⟨⟨o1, o2⟩, ⟨o3, o4⟩, ⟨o5, o6⟩, ⟨o7, o8⟩, ⟨o9, o10⟩, ⟨o11, o12⟩, ⟨o13, o14⟩, ⟨o15, o16⟩, -⟩ := id hok
  have gx1 := sn_rng x1
  have gx4 := sn_rng x4
  have j34p : ∀ (H : Heap) (locs : List Loc) (ls : Array Slot) (v34p_5 : Int32) (v34p_2 : Int64) (t34p_th : Int), sI (dC, dI) vcl cI cJ (gsM a t34p_th tr dp zi co sh lt ts mf) A s.heap H locs → okM t34p_th tr dp zi co sh lt ts mf → 0 ≤ v34p_5.toInt → v34p_5.toInt ≤ 0 → 1 ≤ t34p_th → t34p_th ≤ 1 → x4.toInt < 1 ∨ 8 < x4.toInt ∨ x1.toInt < 0 ∨ 512 < x1.toInt + x4.toInt → lv_has ls 6 [(0, .ref (a 0)), (1, .int x1), (2, .long v34p_2), (4, .int x4), (5, .int v34p_5)] → W p l e (headSpec tw_tbl rm_Mo_poke).room s m ([.ref (a 0), .int x1, .long y2, .int x4] : List Value).toArray below meth c H locs 0 0 Z (F0 m 34 ls []) := by
    intro H locs ls v34p_5 v34p_2 t34p_th hI hok g34_0 g34_1 g34_2 g34_3 g34_4 hl
    obtain ⟨⟨o17, o18⟩, ⟨o19, o20⟩, ⟨o21, o22⟩, ⟨o23, o24⟩, ⟨o25, o26⟩, ⟨o27, o28⟩, ⟨o29, o30⟩, ⟨o31, o32⟩, -⟩ := id hok
    refine lv_iload hx hb d_Mo_poke_34 (lv_at hl 4 rfl) ?_
    refine lv_iload hx hb d_Mo_poke_36 (lv_at hl 3 rfl) ?_
    refine sn_icmp_ge (tgt := 80) hx hb d_Mo_poke_38 (by decide) (fun b33 => ?_) (fun b33 => ?_)
    · subst hZ
      exact tz_ret (W.vret hx hb hr (fun t ht hW => ⟨⟨fun v9 hv9 => by cases hv9; exact (Or.inl ⟨t34p_th, rfl, hok, by omega, by omega, by omega, by rw [ht]; exact hI.1⟩), fun x9 hx9 => (by cases hx9)⟩, hI.2.F ht⟩) hI.2.2.2 d_Mo_poke_80)
    · refine lv_aload_n hx hb d_Mo_poke_41 rfl (lv_at hl 0 rfl) ?_
      refine sv_gete (C := "StoryMachineModel") (T := T_Mo) (N := 51) hx hb hts in_Mo hown hK hI 0 kM_0 rfl 0 (by decide) (hts _ mw_1063) rfl d_Mo_poke_42 (fun z34 hz34 => ?_)
      refine sn_if_ne (tgt := 80) hx hb d_Mo_poke_45 (by decide) (fun b35 => ?_) (fun b35 => ?_)
      · subst hZ
        exact tz_ret (W.vret hx hb hr (fun t ht hW => ⟨⟨fun v9 hv9 => by cases hv9; exact (Or.inl ⟨t34p_th, rfl, hok, by omega, by omega, by omega, by rw [ht]; exact hI.1⟩), fun x9 hx9 => (by cases hx9)⟩, hI.2.F ht⟩) hI.2.2.2 d_Mo_poke_80)
      · omega
  have j34z : ∀ (n : Nat) (H : Heap) (locs : List Loc) (ls : Array Slot) (v34z_5 : Int32) (v34z_2 : Int64) (t34z_th : Int) (t34z_mf : Nat → Int32), sI (dC, dI) vcl cI cJ (gsM a t34z_th tr dp zi co sh lt ts t34z_mf) A s.heap H locs → okM t34z_th tr dp zi co sh lt ts t34z_mf → 0 ≤ v34z_5.toInt → v34z_5.toInt ≤ 8 → 0 ≤ t34z_th → t34z_th ≤ 0 → 0 ≤ x1.toInt → x1.toInt ≤ 511 → 1 ≤ x4.toInt → x4.toInt ≤ 8 → 1 ≤ x4.toInt → x4.toInt ≤ 8 → 0 ≤ x1.toInt → x1.toInt + x4.toInt ≤ 512 → lv_has ls 6 [(0, .ref (a 0)), (1, .int x1), (2, .long v34z_2), (4, .int x4), (5, .int v34z_5)] → 8 - v34z_5.toInt < (n : Int) → W p l e (headSpec tw_tbl rm_Mo_poke).room s m ([.ref (a 0), .int x1, .long y2, .int x4] : List Value).toArray below meth c H locs 0 0 Z (F0 m 34 ls []) := by
    intro n
    induction n with
    | zero => intro H locs ls v34z_5 v34z_2 t34z_th t34z_mf hI hok g34_0 g34_1 g34_2 g34_3 g34_4 g34_5 g34_6 g34_7 g34_8 g34_9 g34_10 g34_11 hl hme; exfalso; obtain ⟨⟨o36, o37⟩, ⟨o38, o39⟩, ⟨o40, o41⟩, ⟨o42, o43⟩, ⟨o44, o45⟩, ⟨o46, o47⟩, ⟨o48, o49⟩, ⟨o50, o51⟩, -⟩ := id hok; omega
    | succ n ih =>
      intro H locs ls v34z_5 v34z_2 t34z_th t34z_mf hI hok g34_0 g34_1 g34_2 g34_3 g34_4 g34_5 g34_6 g34_7 g34_8 g34_9 g34_10 g34_11 hl hme
      obtain ⟨⟨o52, o53⟩, ⟨o54, o55⟩, ⟨o56, o57⟩, ⟨o58, o59⟩, ⟨o60, o61⟩, ⟨o62, o63⟩, ⟨o64, o65⟩, ⟨o66, o67⟩, -⟩ := id hok
      refine lv_iload hx hb d_Mo_poke_34 (lv_at hl 4 rfl) ?_
      refine lv_iload hx hb d_Mo_poke_36 (lv_at hl 3 rfl) ?_
      refine sn_icmp_ge (tgt := 80) hx hb d_Mo_poke_38 (by decide) (fun b68 => ?_) (fun b68 => ?_)
      · subst hZ
        exact tz_ret (W.vret hx hb hr (fun t ht hW => ⟨⟨fun v9 hv9 => by cases hv9; exact (Or.inr (⟨t34z_th, t34z_mf, rfl, hok, by omega, by omega, by omega, by omega, by omega, by omega, by omega, by omega, by omega, by rw [ht]; exact hI.1⟩)), fun x9 hx9 => (by cases hx9)⟩, hI.2.F ht⟩) hI.2.2.2 d_Mo_poke_80)
      · refine lv_aload_n hx hb d_Mo_poke_41 rfl (lv_at hl 0 rfl) ?_
        refine sv_gete (C := "StoryMachineModel") (T := T_Mo) (N := 51) hx hb hts in_Mo hown hK hI 0 kM_0 rfl 0 (by decide) (hts _ mw_1063) rfl d_Mo_poke_42 (fun z69 hz69 => ?_)
        refine sn_if_ne (tgt := 80) hx hb d_Mo_poke_45 (by decide) (fun b70 => ?_) (fun b70 => ?_)
        · omega
        · refine lv_aload_n hx hb d_Mo_poke_48 rfl (lv_at hl 0 rfl) ?_
          refine sv_getr (C := "StoryMachineModel") (T := T_Mo) (N := 51) hx hb hts in_Mo hown hK hI 0 kM_0 rfl 1 (by decide) (hts _ mw_1064) rfl d_Mo_poke_49 ?_
          refine lv_iload_n hx hb d_Mo_poke_52 rfl (lv_at hl 1 rfl) ?_
          refine lv_iload hx hb d_Mo_poke_53 (lv_at hl 4 rfl) ?_
          refine sn_iadd hx hb d_Mo_poke_55 (by omega) (by omega) (fun z71 hz71 => ?_)
          refine lv_lload_n hx hb d_Mo_poke_56 rfl (lv_at hl 2 rfl) ?_
          refine sn_bipush hx hb d_Mo_poke_57 (by decide) (fun z72 hz72 => ?_)
          refine lv_iload hx hb d_Mo_poke_59 (lv_at hl 3 rfl) ?_
          refine sn_iconst hx hb d_Mo_poke_61 (by decide) (fun z73 hz73 => ?_)
          refine sn_isub hx hb d_Mo_poke_62 (by omega) (by omega) (fun z74 hz74 => ?_)
          refine lv_iload hx hb d_Mo_poke_63 (lv_at hl 4 rfl) ?_
          refine sn_isub hx hb d_Mo_poke_65 (by omega) (by omega) (fun z75 hz75 => ?_)
          refine sn_imulL (k := 8) hx hb d_Mo_poke_66 (by omega) (by omega) (by omega) (fun z76 hz76 => ?_)
          refine lv_lshr hx hb d_Mo_poke_67 rfl ?_
          refine lv_topl (fun y77 hy77 => ?_)
          refine lv_ldc2 hx hb hown (hts _ mw_1504) d_Mo_poke_68 ?_
          refine lv_topl (fun c255_78 hc255_78 => ?_)
          refine sn_land hx hb d_Mo_poke_71 hc255_78 (fun y79 hy79a hy79b => ?_)
          refine sn_l2i hx hb d_Mo_poke_72 (by omega) (by omega) (fun z80 hz80 => ?_)
          refine sv_iast hx hb hK (sh_in adM_map hAC) hI 1 kM_1 (P' := fun g => g = upd t34z_mf (z71.toNatClampNeg) z80) (by omega) (by omega) (fun g hg => by rw [hg]) pM_1 d_Mo_poke_73 (fun H locs hI => ?_)
          obtain ⟨f81, hf81⟩ : ∃ z : Nat → Int32, z = upd t34z_mf (z71.toNatClampNeg) z80 := ⟨_, rfl⟩
          rw [← hf81] at hI
          have rf81 : rg 0 255 f81 := by rw [hf81]; exact rg_upd hok.2.2.2.2.2.2.2.2 (by omega) (by omega)
          refine sn_iinc (k := 4) hx hb d_Mo_poke_74 hl rfl (by decide) (by decide) (by omega) (by omega) (fun ls z82 hz82 hl => ?_)
          have hl : lv_has ls 6 [(5, .int z82), (0, .ref (a 0)), (1, .int x1), (2, .long v34z_2), (4, .int x4)] := hl
          refine lv_goto (tgt := 34) hx hb d_Mo_poke_77 (by decide) ?_
          have ho83 : okM t34z_th tr dp zi co sh lt ts f81 := ⟨hok.1, hok.2.1, hok.2.2.1, hok.2.2.2.1, hok.2.2.2.2.1, hok.2.2.2.2.2.1, hok.2.2.2.2.2.2.1, hok.2.2.2.2.2.2.2.1, rf81⟩
          exact ih _ _ _ z82 v34z_2 t34z_th f81 hI ho83 (by omega) (by omega) (by omega) (by omega) (by omega) (by omega) (by omega) (by omega) (by omega) (by omega) (by omega) (by omega) (lv_sub hl [1, 2, 3, 4, 0] rfl) (by omega)
  refine lv_aload_n hx hb d_Mo_poke_0 rfl (lv_at hl 0 rfl) ?_
  refine lv_iload hx hb d_Mo_poke_1 (lv_at hl 3 rfl) ?_
  refine tz_call (A1 := ga (adM a) H.size) (tz_runS (As := [.int x4]) (rest := [.ref (a 0)]) ⟨hx, hb, hml, hown, hts⟩ (c_Mo_isFew l hfl dC dI cI cJ a H.size th tr dp zi co sh lt ts mf x4 hok) (tx_cb (n := 1) hts rfl rfl ⟨Nat.le_of_ble_eq_true rfl, Nat.le_of_ble_eq_true rfl⟩ (tx_code.of (hts _ mw_1503)) (hts _ mw_12) (by decide +kernel) (hts _ mw_1501)) (hts _ mw_1502) ⟨tz_blind, fun U hU hW => ⟨rfl, by rw [hU], by rw [hU]; exact hI.1, va_K.moved hW.alike hK, hst _ _ hI.2 U hU hW⟩⟩ rfl rfl hl.1 rfl (lv_room (Nat.le_of_ble_eq_true rfl)) d_Mo_poke_3 ⟨Nat.le_of_ble_eq_true rfl, Nat.le_of_ble_eq_true rfl⟩) hI.2 (fun q _ h => ga_sub hAC hA0 hI.2 q h) (ga_sub hAC hA0 hI.2) (fun v t H1 locs1 ht hWt hpost _ _ hS => ?_) (fun x t H1 locs1 ht hWt hpost _ _ hS => (hpost.2 x rfl).elim)
  rcases hpost.1 _ rfl with ⟨z84, hv, c85, c85_0, c85_1, c85_2, hI1⟩ | ⟨z86, hv, c87, c87_0, c87_1, c87_2, c87_3, hI1⟩
  · cases hv
    have hI : sI (dC, dI) vcl cI cJ (gsM a th tr dp zi co sh lt ts mf) A s.heap H1 locs1 := ⟨by rw [← ht]; exact hI1, hS⟩
    clear hpost hI1 hS ht hWt
    revert hI; generalize H1 = H; generalize locs1 = locs; intro hI
    refine sn_if_eq (tgt := 23) hx hb d_Mo_poke_6 (by decide) (fun b88 => ?_) (fun b88 => ?_)
    · refine sn_iconst hx hb d_Mo_poke_23 (by decide) (fun z89 hz89 => ?_)
      refine lv_goto (tgt := 28) hx hb d_Mo_poke_24 (by decide) ?_
      refine sv_put (C := "StoryMachineModel") (T := T_Mo) (N := 51) (ty := .int) hx hb hts in_Mo t_Mo tk_Mo nm_Mo hown hK (sh_in adM_map hAC) hI 0 kM_0 rfl 0 (by decide) (hts _ mw_1063) rfl (by decide +kernel) rfl rfl (Nat.le_of_ble_eq_true rfl) (Int.le_refl _) (Int.le_refl _) pM_0_0 d_Mo_poke_28 (fun H locs hI => ?_)
      refine sn_iconst hx hb d_Mo_poke_31 (by decide) (fun z90 hz90 => ?_)
      refine lv_istore (lv' := [(5, .int z90), (0, .ref (a 0)), (1, .int x1), (2, .long y2), (4, .int x4)]) hx hb d_Mo_poke_32 hl (by decide) rfl (fun ls hl => ?_)
      have ho91 : okM z89.toInt tr dp zi co sh lt ts mf := ⟨⟨by omega, by omega⟩, c85.2.1, c85.2.2.1, c85.2.2.2.1, c85.2.2.2.2.1, c85.2.2.2.2.2.1, c85.2.2.2.2.2.2.1, c85.2.2.2.2.2.2.2.1, c85.2.2.2.2.2.2.2.2⟩
      exact j34p _ _ _ z90 y2 z89.toInt hI ho91 (by omega) (by omega) (by omega) (by omega) (by omega) (lv_sub hl [1, 2, 3, 4, 0] rfl)
    · omega
  · cases hv
    have hI : sI (dC, dI) vcl cI cJ (gsM a th tr dp zi co sh lt ts mf) A s.heap H1 locs1 := ⟨by rw [← ht]; exact hI1, hS⟩
    clear hpost hI1 hS ht hWt
    revert hI; generalize H1 = H; generalize locs1 = locs; intro hI
    refine sn_if_eq (tgt := 23) hx hb d_Mo_poke_6 (by decide) (fun b92 => ?_) (fun b92 => ?_)
    · omega
    · refine lv_iload_n hx hb d_Mo_poke_9 rfl (lv_at hl 1 rfl) ?_
      refine sn_if_lt (tgt := 23) hx hb d_Mo_poke_10 (by decide) (fun b93 => ?_) (fun b93 => ?_)
      · refine sn_iconst hx hb d_Mo_poke_23 (by decide) (fun z94 hz94 => ?_)
        refine lv_goto (tgt := 28) hx hb d_Mo_poke_24 (by decide) ?_
        refine sv_put (C := "StoryMachineModel") (T := T_Mo) (N := 51) (ty := .int) hx hb hts in_Mo t_Mo tk_Mo nm_Mo hown hK (sh_in adM_map hAC) hI 0 kM_0 rfl 0 (by decide) (hts _ mw_1063) rfl (by decide +kernel) rfl rfl (Nat.le_of_ble_eq_true rfl) (Int.le_refl _) (Int.le_refl _) pM_0_0 d_Mo_poke_28 (fun H locs hI => ?_)
        refine sn_iconst hx hb d_Mo_poke_31 (by decide) (fun z95 hz95 => ?_)
        refine lv_istore (lv' := [(5, .int z95), (0, .ref (a 0)), (1, .int x1), (2, .long y2), (4, .int x4)]) hx hb d_Mo_poke_32 hl (by decide) rfl (fun ls hl => ?_)
        have ho96 : okM z94.toInt tr dp zi co sh lt ts mf := ⟨⟨by omega, by omega⟩, c87.2.1, c87.2.2.1, c87.2.2.2.1, c87.2.2.2.2.1, c87.2.2.2.2.2.1, c87.2.2.2.2.2.2.1, c87.2.2.2.2.2.2.2.1, c87.2.2.2.2.2.2.2.2⟩
        exact j34p _ _ _ z95 y2 z94.toInt hI ho96 (by omega) (by omega) (by omega) (by omega) (by omega) (lv_sub hl [1, 2, 3, 4, 0] rfl)
      · refine lv_iload_n hx hb d_Mo_poke_13 rfl (lv_at hl 1 rfl) ?_
        refine sn_sipush hx hb d_Mo_poke_14 (by decide) (fun z97 hz97 => ?_)
        refine lv_iload hx hb d_Mo_poke_17 (lv_at hl 3 rfl) ?_
        refine sn_isub hx hb d_Mo_poke_19 (by omega) (by omega) (fun z98 hz98 => ?_)
        refine sn_icmp_le (tgt := 27) hx hb d_Mo_poke_20 (by decide) (fun b99 => ?_) (fun b99 => ?_)
        · refine sn_iconst hx hb d_Mo_poke_27 (by decide) (fun z100 hz100 => ?_)
          refine sv_put (C := "StoryMachineModel") (T := T_Mo) (N := 51) (ty := .int) hx hb hts in_Mo t_Mo tk_Mo nm_Mo hown hK (sh_in adM_map hAC) hI 0 kM_0 rfl 0 (by decide) (hts _ mw_1063) rfl (by decide +kernel) rfl rfl (Nat.le_of_ble_eq_true rfl) (Int.le_refl _) (Int.le_refl _) pM_0_0 d_Mo_poke_28 (fun H locs hI => ?_)
          refine sn_iconst hx hb d_Mo_poke_31 (by decide) (fun z101 hz101 => ?_)
          refine lv_istore (lv' := [(5, .int z101), (0, .ref (a 0)), (1, .int x1), (2, .long y2), (4, .int x4)]) hx hb d_Mo_poke_32 hl (by decide) rfl (fun ls hl => ?_)
          have ho102 : okM z100.toInt tr dp zi co sh lt ts mf := ⟨⟨by omega, by omega⟩, c87.2.1, c87.2.2.1, c87.2.2.2.1, c87.2.2.2.2.1, c87.2.2.2.2.2.1, c87.2.2.2.2.2.2.1, c87.2.2.2.2.2.2.2.1, c87.2.2.2.2.2.2.2.2⟩
          exact j34z 9 _ _ _ z101 y2 z100.toInt mf hI ho102 (by omega) (by omega) (by omega) (by omega) (by omega) (by omega) (by omega) (by omega) (by omega) (by omega) (by omega) (by omega) (lv_sub hl [1, 2, 3, 4, 0] rfl) (by omega)
        · refine sn_iconst hx hb d_Mo_poke_23 (by decide) (fun z103 hz103 => ?_)
          refine lv_goto (tgt := 28) hx hb d_Mo_poke_24 (by decide) ?_
          refine sv_put (C := "StoryMachineModel") (T := T_Mo) (N := 51) (ty := .int) hx hb hts in_Mo t_Mo tk_Mo nm_Mo hown hK (sh_in adM_map hAC) hI 0 kM_0 rfl 0 (by decide) (hts _ mw_1063) rfl (by decide +kernel) rfl rfl (Nat.le_of_ble_eq_true rfl) (Int.le_refl _) (Int.le_refl _) pM_0_0 d_Mo_poke_28 (fun H locs hI => ?_)
          refine sn_iconst hx hb d_Mo_poke_31 (by decide) (fun z104 hz104 => ?_)
          refine lv_istore (lv' := [(5, .int z104), (0, .ref (a 0)), (1, .int x1), (2, .long y2), (4, .int x4)]) hx hb d_Mo_poke_32 hl (by decide) rfl (fun ls hl => ?_)
          have ho105 : okM z103.toInt tr dp zi co sh lt ts mf := ⟨⟨by omega, by omega⟩, c87.2.1, c87.2.2.1, c87.2.2.2.1, c87.2.2.2.2.1, c87.2.2.2.2.2.1, c87.2.2.2.2.2.2.1, c87.2.2.2.2.2.2.2.1, c87.2.2.2.2.2.2.2.2⟩
          exact j34p _ _ _ z104 y2 z103.toInt hI ho105 (by omega) (by omega) (by omega) (by omega) (by omega) (lv_sub hl [1, 2, 3, 4, 0] rfl)
abbrev q_Mo_thrown (dC : Nat → ClassId) (dI : Nat → Nat → Nat) (cI cJ : ClassId) (a : Nat → Nat) (th tr dp zi co sh lt ts : Int) (mf : Nat → Int32) : Outcome → State → Prop := fun o t => (∀ v, o = .returned v → ((∃ (z : Int32), v = some (.int z) ∧ okM th tr dp zi co sh lt ts mf ∧ (0 ≤ z.toInt) ∧ (z.toInt ≤ 2) ∧ (z.toInt = th) ∧ sh_I (dC, dI) vcl cI cJ (gsM a th tr dp zi co sh lt ts mf) t.heap))) ∧ (∀ x, o = .threw x → (False))
def rm_Mo_thrown : Room := { frames := 0, cells := 0, slots := 0, locals := 0 }
set_option maxHeartbeats 4000000 in
set_option maxRecDepth 100000 in
theorem c_Mo_thrown (l : Launch) (hfl : l.flags = pinnedFlags ++ [noTraceFlag]) (dC : Nat → ClassId) (dI : Nat → Nat → Nat) (cI cJ : ClassId) (a : Nat → Nat) (sz : Nat) (th tr dp zi co sh lt ts : Int) (mf : Nat → Int32) (hok : okM th tr dp zi co sh lt ts mf) : tz_Met l ⟨"StoryMachineModel", "thrown", "()I"⟩ tw_tbl rm_Mo_thrown (tzP (dC, dI) vcl cI cJ (gsM a th tr dp zi co sh lt ts mf) a (adM a) [.ref (a 0)] sz) (tq_Q (q_Mo_thrown dC dI cI cJ a th tr dp zi co sh lt ts mf) (ga (adM a) sz)) 0 0 0 0 (ga (adM a) sz) := by
  refine tz_ofW (cc := prog_13_method_2_code) (maxL := 1) (ret := (some .int)) (by decide) (tx_isM mw_1220) ?_
  intro p e s m args below meth c s₁ B hml hv
  obtain ⟨rfl, hsz, hI0, hK, hst0⟩ := hv
  have hx := B.exec
  have hb := B.bytes
  have hr := B.returns
  have hts := atoms_spec (ws := tw_tbl) B.pre
  have hown : s.vm.findClass "StoryMachineModel" = some m.cls := findClass_of_methodNamed B.named
  have hlocks := B.notSynchronized
  subst hsz
  have hst := fun (H : Heap) (locs : List Loc) (hS : va_S (ga (adM a) s.heap.size) s.heap H locs) (U : State) (hU : U.heap = H) (hW : s.WarmedH U.vm) => zS_all adM_map hI0 hst0 hS hU hW
  have hAC : ∀ q ∈ adM a, ga (adM a) s.heap.size q := fun q h => Or.inl h
  have hA0 : ∀ q, s.heap.size ≤ q → ga (adM a) s.heap.size q := fun q h => Or.inr h
  have hI : sI (dC, dI) vcl cI cJ (gsM a th tr dp zi co sh lt ts mf) (ga (adM a) s.heap.size) s.heap s.heap [] := ⟨hI0, va_S.rf⟩
  clear hI0 hst0
  have hl := lv_entry ([.ref (a 0)]) (n := 1) (Nat.le_of_ble_eq_true rfl)
  rw [lg_entry_eq]
  generalize (lg_sl ([.ref (a 0)]) ++ List.replicate (1 - (lg_sl ([.ref (a 0)])).length) Slot.unset).toArray = ls at hl ⊢
  have hl : lv_has ls 1 [(0, .ref (a 0))] := hl
  generalize hZ : tz_MQ below (tq_Q (q_Mo_thrown dC dI cI cJ a th tr dp zi co sh lt ts mf) (ga (adM a) s.heap.size)) ([.ref (a 0)] : List Value).toArray s 0 0 0 0 (ga (adM a) s.heap.size) = Z
  obtain ⟨A, hAe⟩ : ∃ A, A = ga (adM a) s.heap.size := ⟨_, rfl⟩
  rw [← hAe] at hst hAC hA0 hI hZ
  refine sv_start hI (fun H locs hI => ?_)
  obtain ⟨⟨o1, o2⟩, ⟨o3, o4⟩, ⟨o5, o6⟩, ⟨o7, o8⟩, ⟨o9, o10⟩, ⟨o11, o12⟩, ⟨o13, o14⟩, ⟨o15, o16⟩, -⟩ := id hok
  refine lv_aload_n hx hb d_Mo_thrown_0 rfl (lv_at hl 0 rfl) ?_
  refine sv_gete (C := "StoryMachineModel") (T := T_Mo) (N := 51) hx hb hts in_Mo hown hK hI 0 kM_0 rfl 0 (by decide) (hts _ mw_1063) rfl d_Mo_thrown_1 (fun z17 hz17 => ?_)
  subst hZ
  exact tz_ret (W.iret (v := z17) hx hb hr (fun t ht hW => ⟨⟨fun v9 hv9 => by cases hv9; exact (⟨z17, rfl, hok, by omega, by omega, by omega, by rw [ht]; exact hI.1⟩), fun x9 hx9 => (by cases hx9)⟩, hI.2.F ht⟩) hI.2.2.2 d_Mo_thrown_4)
abbrev q_Mo_peek (dC : Nat → ClassId) (dI : Nat → Nat → Nat) (cI cJ : ClassId) (a : Nat → Nat) (th tr dp zi co sh lt ts : Int) (mf : Nat → Int32) (x1 : Int32) : Outcome → State → Prop := fun o t => (∀ v, o = .returned v → ((∃ (z : Int32) (th_ : Int), v = some (.int z) ∧ okM th_ tr dp zi co sh lt ts mf ∧ (0 ≤ z.toInt) ∧ (z.toInt ≤ 255) ∧ (th_ ≤ 1) ∧ sh_I (dC, dI) vcl cI cJ (gsM a th_ tr dp zi co sh lt ts mf) t.heap))) ∧ (∀ x, o = .threw x → (False))
def rm_Mo_peek : Room := { frames := 0, cells := 0, slots := 0, locals := 0 }
set_option maxHeartbeats 4000000 in
set_option maxRecDepth 100000 in
theorem c_Mo_peek (l : Launch) (hfl : l.flags = pinnedFlags ++ [noTraceFlag]) (dC : Nat → ClassId) (dI : Nat → Nat → Nat) (cI cJ : ClassId) (a : Nat → Nat) (sz : Nat) (th tr dp zi co sh lt ts : Int) (mf : Nat → Int32) (x1 : Int32) (hok : okM th tr dp zi co sh lt ts mf) : tz_Met l ⟨"StoryMachineModel", "peek", "(I)I"⟩ tw_tbl rm_Mo_peek (tzP (dC, dI) vcl cI cJ (gsM a th tr dp zi co sh lt ts mf) a (adM a) [.ref (a 0), .int x1] sz) (tq_Q (q_Mo_peek dC dI cI cJ a th tr dp zi co sh lt ts mf x1) (ga (adM a) sz)) 0 0 0 0 (ga (adM a) sz) := by
  refine tz_ofW (cc := prog_13_method_75_code) (maxL := 2) (ret := (some .int)) (by decide) (tx_isM mw_1508) ?_
  intro p e s m args below meth c s₁ B hml hv
  obtain ⟨rfl, hsz, hI0, hK, hst0⟩ := hv
  have hx := B.exec
  have hb := B.bytes
  have hr := B.returns
  have hts := atoms_spec (ws := tw_tbl) B.pre
  have hown : s.vm.findClass "StoryMachineModel" = some m.cls := findClass_of_methodNamed B.named
  have hlocks := B.notSynchronized
  subst hsz
  have hst := fun (H : Heap) (locs : List Loc) (hS : va_S (ga (adM a) s.heap.size) s.heap H locs) (U : State) (hU : U.heap = H) (hW : s.WarmedH U.vm) => zS_all adM_map hI0 hst0 hS hU hW
  have hAC : ∀ q ∈ adM a, ga (adM a) s.heap.size q := fun q h => Or.inl h
  have hA0 : ∀ q, s.heap.size ≤ q → ga (adM a) s.heap.size q := fun q h => Or.inr h
  have hI : sI (dC, dI) vcl cI cJ (gsM a th tr dp zi co sh lt ts mf) (ga (adM a) s.heap.size) s.heap s.heap [] := ⟨hI0, va_S.rf⟩
  clear hI0 hst0
  have hl := lv_entry ([.ref (a 0), .int x1]) (n := 2) (Nat.le_of_ble_eq_true rfl)
  rw [lg_entry_eq]
  generalize (lg_sl ([.ref (a 0), .int x1]) ++ List.replicate (2 - (lg_sl ([.ref (a 0), .int x1])).length) Slot.unset).toArray = ls at hl ⊢
  have hl : lv_has ls 2 [(0, .ref (a 0)), (1, .int x1)] := hl
  generalize hZ : tz_MQ below (tq_Q (q_Mo_peek dC dI cI cJ a th tr dp zi co sh lt ts mf x1) (ga (adM a) s.heap.size)) ([.ref (a 0), .int x1] : List Value).toArray s 0 0 0 0 (ga (adM a) s.heap.size) = Z
  obtain ⟨A, hAe⟩ : ∃ A, A = ga (adM a) s.heap.size := ⟨_, rfl⟩
  rw [← hAe] at hst hAC hA0 hI hZ
  refine sv_start hI (fun H locs hI => ?_)
  obtain ⟨⟨o1, o2⟩, ⟨o3, o4⟩, ⟨o5, o6⟩, ⟨o7, o8⟩, ⟨o9, o10⟩, ⟨o11, o12⟩, ⟨o13, o14⟩, ⟨o15, o16⟩, -⟩ := id hok
  have gx1 := sn_rng x1
  refine lv_aload_n hx hb d_Mo_peek_0 rfl (lv_at hl 0 rfl) ?_
  refine lv_iload_n hx hb d_Mo_peek_1 rfl (lv_at hl 1 rfl) ?_
  refine sn_if_lt (tgt := 12) hx hb d_Mo_peek_2 (by decide) (fun b17 => ?_) (fun b17 => ?_)
  · refine sn_iconst hx hb d_Mo_peek_12 (by decide) (fun z18 hz18 => ?_)
    refine lv_goto (tgt := 17) hx hb d_Mo_peek_13 (by decide) ?_
    refine sv_put (C := "StoryMachineModel") (T := T_Mo) (N := 51) (ty := .int) hx hb hts in_Mo t_Mo tk_Mo nm_Mo hown hK (sh_in adM_map hAC) hI 0 kM_0 rfl 0 (by decide) (hts _ mw_1063) rfl (by decide +kernel) rfl rfl (Nat.le_of_ble_eq_true rfl) (Int.le_refl _) (Int.le_refl _) pM_0_0 d_Mo_peek_17 (fun H locs hI => ?_)
    refine lv_aload_n hx hb d_Mo_peek_20 rfl (lv_at hl 0 rfl) ?_
    refine sv_gete (C := "StoryMachineModel") (T := T_Mo) (N := 51) hx hb hts in_Mo hown hK hI 0 kM_0 rfl 0 (by decide) (hts _ mw_1063) rfl d_Mo_peek_21 (fun z19 hz19 => ?_)
    refine sn_if_le (tgt := 31) hx hb d_Mo_peek_24 (by decide) (fun b20 => ?_) (fun b20 => ?_)
    · omega
    · refine sn_iconst hx hb d_Mo_peek_27 (by decide) (fun z21 hz21 => ?_)
      refine lv_goto (tgt := 37) hx hb d_Mo_peek_28 (by decide) ?_
      have ho22 : okM z18.toInt tr dp zi co sh lt ts mf := ⟨⟨by omega, by omega⟩, hok.2.1, hok.2.2.1, hok.2.2.2.1, hok.2.2.2.2.1, hok.2.2.2.2.2.1, hok.2.2.2.2.2.2.1, hok.2.2.2.2.2.2.2.1, hok.2.2.2.2.2.2.2.2⟩
      subst hZ
      exact tz_ret (W.iret (v := z21) hx hb hr (fun t ht hW => ⟨⟨fun v9 hv9 => by cases hv9; exact (⟨z21, z18.toInt, rfl, ho22, by omega, by omega, by omega, by rw [ht]; exact hI.1⟩), fun x9 hx9 => (by cases hx9)⟩, hI.2.F ht⟩) hI.2.2.2 d_Mo_peek_37)
  · refine lv_iload_n hx hb d_Mo_peek_5 rfl (lv_at hl 1 rfl) ?_
    refine sn_sipush hx hb d_Mo_peek_6 (by decide) (fun z23 hz23 => ?_)
    refine sn_icmp_le (tgt := 16) hx hb d_Mo_peek_9 (by decide) (fun b24 => ?_) (fun b24 => ?_)
    · refine sn_iconst hx hb d_Mo_peek_16 (by decide) (fun z25 hz25 => ?_)
      refine sv_put (C := "StoryMachineModel") (T := T_Mo) (N := 51) (ty := .int) hx hb hts in_Mo t_Mo tk_Mo nm_Mo hown hK (sh_in adM_map hAC) hI 0 kM_0 rfl 0 (by decide) (hts _ mw_1063) rfl (by decide +kernel) rfl rfl (Nat.le_of_ble_eq_true rfl) (Int.le_refl _) (Int.le_refl _) pM_0_0 d_Mo_peek_17 (fun H locs hI => ?_)
      refine lv_aload_n hx hb d_Mo_peek_20 rfl (lv_at hl 0 rfl) ?_
      refine sv_gete (C := "StoryMachineModel") (T := T_Mo) (N := 51) hx hb hts in_Mo hown hK hI 0 kM_0 rfl 0 (by decide) (hts _ mw_1063) rfl d_Mo_peek_21 (fun z26 hz26 => ?_)
      refine sn_if_le (tgt := 31) hx hb d_Mo_peek_24 (by decide) (fun b27 => ?_) (fun b27 => ?_)
      · refine lv_aload_n hx hb d_Mo_peek_31 rfl (lv_at hl 0 rfl) ?_
        refine sv_getr (C := "StoryMachineModel") (T := T_Mo) (N := 51) hx hb hts in_Mo hown hK hI 0 kM_0 rfl 1 (by decide) (hts _ mw_1064) rfl d_Mo_peek_32 ?_
        refine lv_iload_n hx hb d_Mo_peek_35 rfl (lv_at hl 1 rfl) ?_
        refine sv_ialde hx hb hK hI 1 kM_1 (by omega) (by omega) d_Mo_peek_36 (fun z28 hz28 => ?_)
        have hz28r := hok.2.2.2.2.2.2.2.2 (x1.toNatClampNeg)
        rw [← hz28] at hz28r
        have hz28x : z28.toInt = (mf x1.toInt.toNat).toInt := by rw [hz28]; rfl
        have ho29 : okM z25.toInt tr dp zi co sh lt ts mf := ⟨⟨by omega, by omega⟩, hok.2.1, hok.2.2.1, hok.2.2.2.1, hok.2.2.2.2.1, hok.2.2.2.2.2.1, hok.2.2.2.2.2.2.1, hok.2.2.2.2.2.2.2.1, hok.2.2.2.2.2.2.2.2⟩
        subst hZ
        exact tz_ret (W.iret (v := z28) hx hb hr (fun t ht hW => ⟨⟨fun v9 hv9 => by cases hv9; exact (⟨z28, z25.toInt, rfl, ho29, by omega, by omega, by omega, by rw [ht]; exact hI.1⟩), fun x9 hx9 => (by cases hx9)⟩, hI.2.F ht⟩) hI.2.2.2 d_Mo_peek_37)
      · omega
    · refine sn_iconst hx hb d_Mo_peek_12 (by decide) (fun z30 hz30 => ?_)
      refine lv_goto (tgt := 17) hx hb d_Mo_peek_13 (by decide) ?_
      refine sv_put (C := "StoryMachineModel") (T := T_Mo) (N := 51) (ty := .int) hx hb hts in_Mo t_Mo tk_Mo nm_Mo hown hK (sh_in adM_map hAC) hI 0 kM_0 rfl 0 (by decide) (hts _ mw_1063) rfl (by decide +kernel) rfl rfl (Nat.le_of_ble_eq_true rfl) (Int.le_refl _) (Int.le_refl _) pM_0_0 d_Mo_peek_17 (fun H locs hI => ?_)
      refine lv_aload_n hx hb d_Mo_peek_20 rfl (lv_at hl 0 rfl) ?_
      refine sv_gete (C := "StoryMachineModel") (T := T_Mo) (N := 51) hx hb hts in_Mo hown hK hI 0 kM_0 rfl 0 (by decide) (hts _ mw_1063) rfl d_Mo_peek_21 (fun z31 hz31 => ?_)
      refine sn_if_le (tgt := 31) hx hb d_Mo_peek_24 (by decide) (fun b32 => ?_) (fun b32 => ?_)
      · omega
      · refine sn_iconst hx hb d_Mo_peek_27 (by decide) (fun z33 hz33 => ?_)
        refine lv_goto (tgt := 37) hx hb d_Mo_peek_28 (by decide) ?_
        have ho34 : okM z30.toInt tr dp zi co sh lt ts mf := ⟨⟨by omega, by omega⟩, hok.2.1, hok.2.2.1, hok.2.2.2.1, hok.2.2.2.2.1, hok.2.2.2.2.2.1, hok.2.2.2.2.2.2.1, hok.2.2.2.2.2.2.2.1, hok.2.2.2.2.2.2.2.2⟩
        subst hZ
        exact tz_ret (W.iret (v := z33) hx hb hr (fun t ht hW => ⟨⟨fun v9 hv9 => by cases hv9; exact (⟨z33, z30.toInt, rfl, ho34, by omega, by omega, by omega, by rw [ht]; exact hI.1⟩), fun x9 hx9 => (by cases hx9)⟩, hI.2.F ht⟩) hI.2.2.2 d_Mo_peek_37)
abbrev q_Mo_begin (dC : Nat → ClassId) (dI : Nat → Nat → Nat) (cI cJ : ClassId) (a : Nat → Nat) (th tr dp zi co sh lt ts : Int) (mf : Nat → Int32) : Outcome → State → Prop := fun o t => (∀ v, o = .returned v → ((∃ (th_ dp_ zi_ sh_ ts_ : Int), v = none ∧ okM th_ tr dp_ zi_ co sh_ lt ts_ mf ∧ (th_ ≤ 1) ∧ (sh_ ≤ sh) ∧ sh_I (dC, dI) vcl cI cJ (gsM a th_ tr dp_ zi_ co sh_ lt ts_ mf) t.heap))) ∧ (∀ x, o = .threw x → (False))
def rm_Mo_begin : Room := { frames := 0, cells := 0, slots := 0, locals := 0 }
set_option maxHeartbeats 4000000 in
set_option maxRecDepth 100000 in
theorem c_Mo_begin (l : Launch) (hfl : l.flags = pinnedFlags ++ [noTraceFlag]) (dC : Nat → ClassId) (dI : Nat → Nat → Nat) (cI cJ : ClassId) (a : Nat → Nat) (sz : Nat) (th tr dp zi co sh lt ts : Int) (mf : Nat → Int32) (hok : okM th tr dp zi co sh lt ts mf) : tz_Met l ⟨"StoryMachineModel", "begin", "()V"⟩ tw_tbl rm_Mo_begin (tzP (dC, dI) vcl cI cJ (gsM a th tr dp zi co sh lt ts mf) a (adM a) [.ref (a 0)] sz) (tq_Q (q_Mo_begin dC dI cI cJ a th tr dp zi co sh lt ts mf) (ga (adM a) sz)) 0 0 0 0 (ga (adM a) sz) := by
  refine tz_ofW (cc := prog_13_method_76_code) (maxL := 2) (ret := none) (by decide) (tx_isM mw_1512) ?_
  intro p e s m args below meth c s₁ B hml hv
  obtain ⟨rfl, hsz, hI0, hK, hst0⟩ := hv
  have hx := B.exec
  have hb := B.bytes
  have hr := B.returns
  have hts := atoms_spec (ws := tw_tbl) B.pre
  have hown : s.vm.findClass "StoryMachineModel" = some m.cls := findClass_of_methodNamed B.named
  have hlocks := B.notSynchronized
  subst hsz
  have hst := fun (H : Heap) (locs : List Loc) (hS : va_S (ga (adM a) s.heap.size) s.heap H locs) (U : State) (hU : U.heap = H) (hW : s.WarmedH U.vm) => zS_all adM_map hI0 hst0 hS hU hW
  have hAC : ∀ q ∈ adM a, ga (adM a) s.heap.size q := fun q h => Or.inl h
  have hA0 : ∀ q, s.heap.size ≤ q → ga (adM a) s.heap.size q := fun q h => Or.inr h
  have hI : sI (dC, dI) vcl cI cJ (gsM a th tr dp zi co sh lt ts mf) (ga (adM a) s.heap.size) s.heap s.heap [] := ⟨hI0, va_S.rf⟩
  clear hI0 hst0
  have hl := lv_entry ([.ref (a 0)]) (n := 2) (Nat.le_of_ble_eq_true rfl)
  rw [lg_entry_eq]
  generalize (lg_sl ([.ref (a 0)]) ++ List.replicate (2 - (lg_sl ([.ref (a 0)])).length) Slot.unset).toArray = ls at hl ⊢
  have hl : lv_has ls 2 [(0, .ref (a 0))] := hl
  generalize hZ : tz_MQ below (tq_Q (q_Mo_begin dC dI cI cJ a th tr dp zi co sh lt ts mf) (ga (adM a) s.heap.size)) ([.ref (a 0)] : List Value).toArray s 0 0 0 0 (ga (adM a) s.heap.size) = Z
  obtain ⟨A, hAe⟩ : ∃ A, A = ga (adM a) s.heap.size := ⟨_, rfl⟩
  rw [← hAe] at hst hAC hA0 hI hZ
  refine sv_start hI (fun H locs hI => ?_)
  obtain ⟨⟨o1, o2⟩, ⟨o3, o4⟩, ⟨o5, o6⟩, ⟨o7, o8⟩, ⟨o9, o10⟩, ⟨o11, o12⟩, ⟨o13, o14⟩, ⟨o15, o16⟩, -⟩ := id hok
  refine sn_sipush hx hb d_Mo_begin_0 (by decide) (fun z17 hz17 => ?_)
  refine lv_aload_n hx hb d_Mo_begin_3 rfl (lv_at hl 0 rfl) ?_
  refine sv_getr (C := "StoryMachineModel") (T := T_Mo) (N := 51) hx hb hts in_Mo hown hK hI 0 kM_0 rfl 1 (by decide) (hts _ mw_1064) rfl d_Mo_begin_4 ?_
  refine sn_iconst hx hb d_Mo_begin_7 (by decide) (fun z18 hz18 => ?_)
  refine sv_ialde hx hb hK hI 1 kM_1 (by omega) (by omega) d_Mo_begin_8 (fun z19 hz19 => ?_)
  have hz19r := hok.2.2.2.2.2.2.2.2 (z18.toNatClampNeg)
  rw [← hz19] at hz19r
  have hz19x : z19.toInt = (mf z18.toInt.toNat).toInt := by rw [hz19]; rfl
  have hz19y : z19.toInt = (mf 4).toInt := by rw [hz19, show z18.toNatClampNeg = 4 from by have h9 := sn_cl (z := z18) (by omega); omega]
  refine sn_imulL (k := 256) hx hb d_Mo_begin_9 (by omega) (by omega) (by omega) (fun z20 hz20 => ?_)
  refine lv_aload_n hx hb d_Mo_begin_10 rfl (lv_at hl 0 rfl) ?_
  refine sv_getr (C := "StoryMachineModel") (T := T_Mo) (N := 51) hx hb hts in_Mo hown hK hI 0 kM_0 rfl 1 (by decide) (hts _ mw_1064) rfl d_Mo_begin_11 ?_
  refine sn_iconst hx hb d_Mo_begin_14 (by decide) (fun z21 hz21 => ?_)
  refine sv_ialde hx hb hK hI 1 kM_1 (by omega) (by omega) d_Mo_begin_15 (fun z22 hz22 => ?_)
  have hz22r := hok.2.2.2.2.2.2.2.2 (z21.toNatClampNeg)
  rw [← hz22] at hz22r
  have hz22x : z22.toInt = (mf z21.toInt.toNat).toInt := by rw [hz22]; rfl
  have hz22y : z22.toInt = (mf 5).toInt := by rw [hz22, show z21.toNatClampNeg = 5 from by have h9 := sn_cl (z := z21) (by omega); omega]
  refine sn_iadd hx hb d_Mo_begin_16 (by omega) (by omega) (fun z23 hz23 => ?_)
  refine lv_istore_n (lv' := [(1, .int z23), (0, .ref (a 0))]) hx hb d_Mo_begin_17 rfl hl (by decide) rfl (fun ls hl => ?_)
  refine lv_aload_n hx hb d_Mo_begin_18 rfl (lv_at hl 1 rfl) ?_
  refine lv_iload_n hx hb d_Mo_begin_19 rfl (lv_at hl 0 rfl) ?_
  refine sn_sipush hx hb d_Mo_begin_20 (by decide) (fun z24 hz24 => ?_)
  refine sn_icmp_le (tgt := 30) hx hb d_Mo_begin_23 (by decide) (fun b25 => ?_) (fun b25 => ?_)
  · refine sn_iconst hx hb d_Mo_begin_30 (by decide) (fun z26 hz26 => ?_)
    refine sv_put (C := "StoryMachineModel") (T := T_Mo) (N := 51) (ty := .int) hx hb hts in_Mo t_Mo tk_Mo nm_Mo hown hK (sh_in adM_map hAC) hI 0 kM_0 rfl 0 (by decide) (hts _ mw_1063) rfl (by decide +kernel) rfl rfl (Nat.le_of_ble_eq_true rfl) (Int.le_refl _) (Int.le_refl _) pM_0_0 d_Mo_begin_31 (fun H locs hI => ?_)
    refine lv_aload_n hx hb d_Mo_begin_34 rfl (lv_at hl 1 rfl) ?_
    refine sv_gete (C := "StoryMachineModel") (T := T_Mo) (N := 51) hx hb hts in_Mo hown hK hI 0 kM_0 rfl 0 (by decide) (hts _ mw_1063) rfl d_Mo_begin_35 (fun z27 hz27 => ?_)
    refine sn_if_le (tgt := 42) hx hb d_Mo_begin_38 (by decide) (fun b28 => ?_) (fun b28 => ?_)
    · refine lv_aload_n hx hb d_Mo_begin_42 rfl (lv_at hl 1 rfl) ?_
      refine sn_iconst hx hb d_Mo_begin_43 (by decide) (fun z29 hz29 => ?_)
      refine sv_put (C := "StoryMachineModel") (T := T_Mo) (N := 51) (ty := .boolean) hx hb hts in_Mo t_Mo tk_Mo nm_Mo hown hK (sh_in adM_map hAC) hI 0 kM_0 rfl 23 (by decide) (hts _ mw_1086) rfl (by decide +kernel) (sn_bool (by omega) (by omega)).1 (sn_bool (by omega) (by omega)).2 (Nat.le_of_ble_eq_true rfl) (by omega) (by omega) pM_0_23 d_Mo_begin_44 (fun H locs hI => ?_)
      refine lv_aload_n hx hb d_Mo_begin_47 rfl (lv_at hl 1 rfl) ?_
      refine lv_iload_n hx hb d_Mo_begin_48 rfl (lv_at hl 0 rfl) ?_
      refine sv_put (C := "StoryMachineModel") (T := T_Mo) (N := 51) (ty := .int) hx hb hts in_Mo t_Mo tk_Mo nm_Mo hown hK (sh_in adM_map hAC) hI 0 kM_0 rfl 27 (by decide) (hts _ mw_1090) rfl (by decide +kernel) rfl rfl (Nat.le_of_ble_eq_true rfl) (by omega) (by omega) pM_0_27 d_Mo_begin_49 (fun H locs hI => ?_)
      refine lv_aload_n hx hb d_Mo_begin_52 rfl (lv_at hl 1 rfl) ?_
      refine sn_iconst hx hb d_Mo_begin_53 (by decide) (fun z30 hz30 => ?_)
      refine sv_put (C := "StoryMachineModel") (T := T_Mo) (N := 51) (ty := .int) hx hb hts in_Mo t_Mo tk_Mo nm_Mo hown hK (sh_in adM_map hAC) hI 0 kM_0 rfl 2 (by decide) (hts _ mw_1065) rfl (by decide +kernel) rfl rfl (Nat.le_of_ble_eq_true rfl) (Int.le_refl _) (Int.le_refl _) pM_0_2 d_Mo_begin_54 (fun H locs hI => ?_)
      refine lv_aload_n hx hb d_Mo_begin_57 rfl (lv_at hl 1 rfl) ?_
      refine sn_iconst hx hb d_Mo_begin_58 (by decide) (fun z31 hz31 => ?_)
      refine sv_put (C := "StoryMachineModel") (T := T_Mo) (N := 51) (ty := .int) hx hb hts in_Mo t_Mo tk_Mo nm_Mo hown hK (sh_in adM_map hAC) hI 0 kM_0 rfl 4 (by decide) (hts _ mw_1067) rfl (by decide +kernel) rfl rfl (Nat.le_of_ble_eq_true rfl) (Int.le_refl _) (Int.le_refl _) pM_0_4 d_Mo_begin_59 (fun H locs hI => ?_)
      refine lv_aload_n hx hb d_Mo_begin_62 rfl (lv_at hl 1 rfl) ?_
      refine sv_getr (C := "StoryMachineModel") (T := T_Mo) (N := 51) hx hb hts in_Mo hown hK hI 0 kM_0 rfl 5 (by decide) (hts _ mw_1068) rfl d_Mo_begin_63 ?_
      refine sn_iconst hx hb d_Mo_begin_66 (by decide) (fun z32 hz32 => ?_)
      refine sn_iconst hx hb d_Mo_begin_67 (by decide) (fun z33 hz33 => ?_)
      refine sv_iastr hx hb hK (sh_in adM_map hAC) hI 3 kM_3 (by omega) (by omega) (by omega) (by omega) pM_3 d_Mo_begin_68 (fun H locs hI => ?_)
      refine lv_aload_n hx hb d_Mo_begin_69 rfl (lv_at hl 1 rfl) ?_
      refine sv_getr (C := "StoryMachineModel") (T := T_Mo) (N := 51) hx hb hts in_Mo hown hK hI 0 kM_0 rfl 6 (by decide) (hts _ mw_1069) rfl d_Mo_begin_70 ?_
      refine sn_iconst hx hb d_Mo_begin_73 (by decide) (fun z34 hz34 => ?_)
      refine sn_iconst hx hb d_Mo_begin_74 (by decide) (fun z35 hz35 => ?_)
      refine sv_iastr hx hb hK (sh_in adM_map hAC) hI 4 kM_4 (by omega) (by omega) (by omega) (by omega) pM_4 d_Mo_begin_75 (fun H locs hI => ?_)
      refine lv_aload_n hx hb d_Mo_begin_76 rfl (lv_at hl 1 rfl) ?_
      refine sn_iconst hx hb d_Mo_begin_77 (by decide) (fun z36 hz36 => ?_)
      refine sv_put (C := "StoryMachineModel") (T := T_Mo) (N := 51) (ty := .int) hx hb hts in_Mo t_Mo tk_Mo nm_Mo hown hK (sh_in adM_map hAC) hI 0 kM_0 rfl 30 (by decide) (hts _ mw_1093) rfl (by decide +kernel) rfl rfl (Nat.le_of_ble_eq_true rfl) (by omega) (by omega) pM_0_30 d_Mo_begin_78 (fun H locs hI => ?_)
      refine lv_aload_n hx hb d_Mo_begin_81 rfl (lv_at hl 1 rfl) ?_
      refine sn_iconst hx hb d_Mo_begin_82 (by decide) (fun z37 hz37 => ?_)
      refine sv_put (C := "StoryMachineModel") (T := T_Mo) (N := 51) (ty := .int) hx hb hts in_Mo t_Mo tk_Mo nm_Mo hown hK (sh_in adM_map hAC) hI 0 kM_0 rfl 31 (by decide) (hts _ mw_1094) rfl (by decide +kernel) rfl rfl (Nat.le_of_ble_eq_true rfl) (Int.le_refl _) (Int.le_refl _) pM_0_31 d_Mo_begin_83 (fun H locs hI => ?_)
      refine lv_aload_n hx hb d_Mo_begin_86 rfl (lv_at hl 1 rfl) ?_
      refine sn_iconst hx hb d_Mo_begin_87 (by decide) (fun z38 hz38 => ?_)
      refine sv_put (C := "StoryMachineModel") (T := T_Mo) (N := 51) (ty := .int) hx hb hts in_Mo t_Mo tk_Mo nm_Mo hown hK (sh_in adM_map hAC) hI 0 kM_0 rfl 34 (by decide) (hts _ mw_1097) rfl (by decide +kernel) rfl rfl (Nat.le_of_ble_eq_true rfl) (Int.le_refl _) (Int.le_refl _) pM_0_34 d_Mo_begin_88 (fun H locs hI => ?_)
      refine lv_aload_n hx hb d_Mo_begin_91 rfl (lv_at hl 1 rfl) ?_
      refine sn_iconst hx hb d_Mo_begin_92 (by decide) (fun z39 hz39 => ?_)
      refine sv_put (C := "StoryMachineModel") (T := T_Mo) (N := 51) (ty := .boolean) hx hb hts in_Mo t_Mo tk_Mo nm_Mo hown hK (sh_in adM_map hAC) hI 0 kM_0 rfl 33 (by decide) (hts _ mw_1096) rfl (by decide +kernel) (sn_bool (by omega) (by omega)).1 (sn_bool (by omega) (by omega)).2 (Nat.le_of_ble_eq_true rfl) (by omega) (by omega) pM_0_33 d_Mo_begin_93 (fun H locs hI => ?_)
      refine lv_aload_n hx hb d_Mo_begin_96 rfl (lv_at hl 1 rfl) ?_
      refine sn_iconst hx hb d_Mo_begin_97 (by decide) (fun z40 hz40 => ?_)
      refine sv_put (C := "StoryMachineModel") (T := T_Mo) (N := 51) (ty := .boolean) hx hb hts in_Mo t_Mo tk_Mo nm_Mo hown hK (sh_in adM_map hAC) hI 0 kM_0 rfl 10 (by decide) (hts _ mw_1073) rfl (by decide +kernel) (sn_bool (by omega) (by omega)).1 (sn_bool (by omega) (by omega)).2 (Nat.le_of_ble_eq_true rfl) (by omega) (by omega) pM_0_10 d_Mo_begin_98 (fun H locs hI => ?_)
      refine lv_aload_n hx hb d_Mo_begin_101 rfl (lv_at hl 1 rfl) ?_
      refine sn_iconst hx hb d_Mo_begin_102 (by decide) (fun z41 hz41 => ?_)
      refine sv_put (C := "StoryMachineModel") (T := T_Mo) (N := 51) (ty := .int) hx hb hts in_Mo t_Mo tk_Mo nm_Mo hown hK (sh_in adM_map hAC) hI 0 kM_0 rfl 24 (by decide) (hts _ mw_1087) rfl (by decide +kernel) rfl rfl (Nat.le_of_ble_eq_true rfl) (by omega) (by omega) pM_0_24 d_Mo_begin_103 (fun H locs hI => ?_)
      refine lv_aload_n hx hb d_Mo_begin_106 rfl (lv_at hl 1 rfl) ?_
      refine sn_iconst hx hb d_Mo_begin_107 (by decide) (fun z42 hz42 => ?_)
      refine sv_put (C := "StoryMachineModel") (T := T_Mo) (N := 51) (ty := .int) hx hb hts in_Mo t_Mo tk_Mo nm_Mo hown hK (sh_in adM_map hAC) hI 0 kM_0 rfl 29 (by decide) (hts _ mw_1092) rfl (by decide +kernel) rfl rfl (Nat.le_of_ble_eq_true rfl) (by omega) (by omega) pM_0_29 d_Mo_begin_108 (fun H locs hI => ?_)
      have ho43 : okM z26.toInt tr z31.toInt z30.toInt co z37.toInt lt z38.toInt mf := ⟨⟨by omega, by omega⟩, hok.2.1, ⟨by omega, by omega⟩, ⟨by omega, by omega⟩, hok.2.2.2.2.1, ⟨by omega, by omega⟩, hok.2.2.2.2.2.2.1, ⟨by omega, by omega⟩, hok.2.2.2.2.2.2.2.2⟩
      subst hZ
      exact tz_ret (W.vret hx hb hr (fun t ht hW => ⟨⟨fun v9 hv9 => by cases hv9; exact (⟨z26.toInt, z31.toInt, z30.toInt, z37.toInt, z38.toInt, rfl, ho43, by omega, by omega, by rw [ht]; exact hI.1⟩), fun x9 hx9 => (by cases hx9)⟩, hI.2.F ht⟩) hI.2.2.2 d_Mo_begin_111)
    · omega
  · refine sn_iconst hx hb d_Mo_begin_26 (by decide) (fun z44 hz44 => ?_)
    refine lv_goto (tgt := 31) hx hb d_Mo_begin_27 (by decide) ?_
    refine sv_put (C := "StoryMachineModel") (T := T_Mo) (N := 51) (ty := .int) hx hb hts in_Mo t_Mo tk_Mo nm_Mo hown hK (sh_in adM_map hAC) hI 0 kM_0 rfl 0 (by decide) (hts _ mw_1063) rfl (by decide +kernel) rfl rfl (Nat.le_of_ble_eq_true rfl) (Int.le_refl _) (Int.le_refl _) pM_0_0 d_Mo_begin_31 (fun H locs hI => ?_)
    refine lv_aload_n hx hb d_Mo_begin_34 rfl (lv_at hl 1 rfl) ?_
    refine sv_gete (C := "StoryMachineModel") (T := T_Mo) (N := 51) hx hb hts in_Mo hown hK hI 0 kM_0 rfl 0 (by decide) (hts _ mw_1063) rfl d_Mo_begin_35 (fun z45 hz45 => ?_)
    refine sn_if_le (tgt := 42) hx hb d_Mo_begin_38 (by decide) (fun b46 => ?_) (fun b46 => ?_)
    · omega
    · have ho47 : okM z44.toInt tr dp zi co sh lt ts mf := ⟨⟨by omega, by omega⟩, hok.2.1, hok.2.2.1, hok.2.2.2.1, hok.2.2.2.2.1, hok.2.2.2.2.2.1, hok.2.2.2.2.2.2.1, hok.2.2.2.2.2.2.2.1, hok.2.2.2.2.2.2.2.2⟩
      subst hZ
      exact tz_ret (W.vret hx hb hr (fun t ht hW => ⟨⟨fun v9 hv9 => by cases hv9; exact (⟨z44.toInt, dp, zi, sh, ts, rfl, ho47, by omega, by omega, by rw [ht]; exact hI.1⟩), fun x9 hx9 => (by cases hx9)⟩, hI.2.F ht⟩) hI.2.2.2 d_Mo_begin_41)
