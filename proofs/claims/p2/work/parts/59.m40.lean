abbrev q_Mo_entry (dC : Nat → ClassId) (dI : Nat → Nat → Nat) (cI cJ : ClassId) (a : Nat → Nat) (th tr dp zi co sh lt ts : Int) (mf : Nat → Int32) (x1 : Int32) (x2 : Int32) : Outcome → State → Prop := fun o t => (∀ v, o = .returned v → ((∃ (z : Int32) (tr_ lt_ : Int), v = some (.int z) ∧ okM th tr_ dp zi co sh lt_ ts mf ∧ (0 ≤ z.toInt) ∧ (z.toInt ≤ 0) ∧ (1 ≤ tr_) ∧ sh_I (dC, dI) vcl cI cJ (gsM a th tr_ dp zi co sh lt_ ts mf) t.heap) ∨ (∃ (z : Int32) (lt_ : Int), v = some (.int z) ∧ okM th tr dp zi co sh lt_ ts mf ∧ (0 ≤ z.toInt) ∧ (z.toInt ≤ 511) ∧ (tr ≤ 0) ∧ sh_I (dC, dI) vcl cI cJ (gsM a th tr dp zi co sh lt_ ts mf) t.heap))) ∧ (∀ x, o = .threw x → (False))
def rm_Mo_entry : Room := { frames := 3, cells := 0, slots := 0, locals := 66 }
set_option maxHeartbeats 4000000 in
set_option maxRecDepth 100000 in
theorem c_Mo_entry (l : Launch) (hfl : l.flags = pinnedFlags ++ [noTraceFlag]) (dC : Nat → ClassId) (dI : Nat → Nat → Nat) (cI cJ : ClassId) (a : Nat → Nat) (sz : Nat) (th tr dp zi co sh lt ts : Int) (mf : Nat → Int32) (x1 : Int32) (x2 : Int32) (hok : okM th tr dp zi co sh lt ts mf) (hp0 : 0 ≤ x1.toInt) (hp1 : x1.toInt ≤ 70000) (hp2 : (-24) ≤ x2.toInt) (hp3 : x2.toInt ≤ 24) : tz_Met l ⟨"StoryMachineModel", "entry", "(II)I"⟩ tw_tbl rm_Mo_entry (tzP (dC, dI) vcl cI cJ (gsM a th tr dp zi co sh lt ts mf) a (adM a) [.ref (a 0), .int x1, .int x2] sz) (tq_Q (q_Mo_entry dC dI cI cJ a th tr dp zi co sh lt ts mf x1 x2) (ga (adM a) sz)) 0 0 0 0 (ga (adM a) sz) := by
  refine tz_ofW (cc := prog_13_method_70_code) (maxL := 11) (ret := (some .int)) (by decide) (tx_isM mw_1476) ?_
  intro p e s m args below meth c s₁ B hml hv
  obtain ⟨rfl, hsz, hI0, hK, hst0⟩ := hv
  have hx := B.exec
  have hb := B.bytes
  have hr := B.returns
  have hts := atoms_spec (ws := tw_tbl) B.pre
  have hown : s.vm.findClass "StoryMachineModel" = some m.cls := findClass_of_methodNamed B.named
  have hlocks := B.notSynchronized
  subst hsz
  have hst := fun (H : Heap) (locs : List Loc) (hS : va_S (ga (adM a) s.heap.size) s.heap H locs) (U : State) (hU : U.heap = H) (hW : s.WarmedH U.vm) => zS_all adM_map hI0 hst0 hS hU hW
  have hAC : ∀ q ∈ adM a, ga (adM a) s.heap.size q := fun q h => Or.inl h
  have hA0 : ∀ q, s.heap.size ≤ q → ga (adM a) s.heap.size q := fun q h => Or.inr h
  have hI : sI (dC, dI) vcl cI cJ (gsM a th tr dp zi co sh lt ts mf) (ga (adM a) s.heap.size) s.heap s.heap [] := ⟨hI0, va_S.rf⟩
  clear hI0 hst0
  have hl := lv_entry ([.ref (a 0), .int x1, .int x2]) (n := 11) (Nat.le_of_ble_eq_true rfl)
  rw [lg_entry_eq]
  generalize (lg_sl ([.ref (a 0), .int x1, .int x2]) ++ List.replicate (11 - (lg_sl ([.ref (a 0), .int x1, .int x2])).length) Slot.unset).toArray = ls at hl ⊢
  have hl : lv_has ls 11 [(0, .ref (a 0)), (1, .int x1), (2, .int x2)] := hl
  generalize hZ : tz_MQ below (tq_Q (q_Mo_entry dC dI cI cJ a th tr dp zi co sh lt ts mf x1 x2) (ga (adM a) s.heap.size)) ([.ref (a 0), .int x1, .int x2] : List Value).toArray s 0 0 0 0 (ga (adM a) s.heap.size) = Z
  obtain ⟨A, hAe⟩ : ∃ A, A = ga (adM a) s.heap.size := ⟨_, rfl⟩
  rw [← hAe] at hst hAC hA0 hI hZ
  refine sv_start hI (fun H locs hI => ?_)
  obtain ⟨⟨o1, o2⟩, ⟨o3, o4⟩, ⟨o5, o6⟩, ⟨o7, o8⟩, ⟨o9, o10⟩, ⟨o11, o12⟩, ⟨o13, o14⟩, ⟨o15, o16⟩, -⟩ := id hok
  have gx1 := sn_rng x1
  have gx2 := sn_rng x2
  have j177p : ∀ (H : Heap) (locs : List Loc) (ls : Array Slot) (v177p_3 v177p_4 v177p_5 v177p_6 v177p_7 v177p_8 v177p_9 v177p_10 : Int32) (t177p_tr t177p_lt : Int), sI (dC, dI) vcl cI cJ (gsM a th t177p_tr dp zi co sh t177p_lt ts mf) A s.heap H locs → okM th t177p_tr dp zi co sh t177p_lt ts mf → (-2147483648) ≤ v177p_3.toInt → v177p_3.toInt ≤ 2147483647 → (-2147483648) ≤ v177p_4.toInt → v177p_4.toInt ≤ 2147483647 → 0 ≤ v177p_5.toInt → v177p_5.toInt ≤ 511 → 1 ≤ v177p_6.toInt → v177p_6.toInt ≤ 511 → 5 ≤ v177p_7.toInt → v177p_7.toInt ≤ 255 → 0 ≤ v177p_8.toInt → v177p_8.toInt ≤ 65535 → 4 ≤ v177p_9.toInt → v177p_9.toInt ≤ 1021 → 0 ≤ v177p_10.toInt → v177p_10.toInt ≤ 65535 → 1 ≤ t177p_tr → t177p_tr ≤ 4 → tr ≤ 0 → lv_has ls 11 [(0, .ref (a 0)), (1, .int x1), (2, .int x2), (3, .int v177p_3), (4, .int v177p_4), (5, .int v177p_5), (6, .int v177p_6), (7, .int v177p_7), (8, .int v177p_8), (9, .int v177p_9), (10, .int v177p_10)] → W p l e (headSpec tw_tbl rm_Mo_entry).room s m ([.ref (a 0), .int x1, .int x2] : List Value).toArray below meth c H locs 0 0 Z (F0 m 177 ls []) := by
    intro H locs ls v177p_3 v177p_4 v177p_5 v177p_6 v177p_7 v177p_8 v177p_9 v177p_10 t177p_tr t177p_lt hI hok g177_0 g177_1 g177_2 g177_3 g177_4 g177_5 g177_6 g177_7 g177_8 g177_9 g177_10 g177_11 g177_12 g177_13 g177_14 g177_15 g177_16 g177_17 g177_18 hl
    obtain ⟨⟨o17, o18⟩, ⟨o19, o20⟩, ⟨o21, o22⟩, ⟨o23, o24⟩, ⟨o25, o26⟩, ⟨o27, o28⟩, ⟨o29, o30⟩, ⟨o31, o32⟩, -⟩ := id hok
    refine lv_iload hx hb d_Mo_entry_177 (lv_at hl 10 rfl) ?_
    refine lv_iload hx hb d_Mo_entry_179 (lv_at hl 8 rfl) ?_
    refine sn_icmp_ge (tgt := 244) hx hb d_Mo_entry_181 (by decide) (fun b33 => ?_) (fun b33 => ?_)
    · refine sn_iconst hx hb d_Mo_entry_244 (by decide) (fun z34 hz34 => ?_)
      subst hZ
      exact tz_ret (W.iret (v := z34) hx hb hr (fun t ht hW => ⟨⟨fun v9 hv9 => by cases hv9; exact (Or.inl ⟨z34, t177p_tr, t177p_lt, rfl, hok, by omega, by omega, by omega, by rw [ht]; exact hI.1⟩), fun x9 hx9 => (by cases hx9)⟩, hI.2.F ht⟩) hI.2.2.2 d_Mo_entry_245)
    · refine lv_aload_n hx hb d_Mo_entry_184 rfl (lv_at hl 0 rfl) ?_
      refine sv_gete (C := "StoryMachineModel") (T := T_Mo) (N := 51) hx hb hts in_Mo hown hK hI 0 kM_0 rfl 25 (by decide) (hts _ mw_1088) rfl d_Mo_entry_185 (fun z35 hz35 => ?_)
      refine sn_if_ne (tgt := 244) hx hb d_Mo_entry_188 (by decide) (fun b36 => ?_) (fun b36 => ?_)
      · refine sn_iconst hx hb d_Mo_entry_244 (by decide) (fun z37 hz37 => ?_)
        subst hZ
        exact tz_ret (W.iret (v := z37) hx hb hr (fun t ht hW => ⟨⟨fun v9 hv9 => by cases hv9; exact (Or.inl ⟨z37, t177p_tr, t177p_lt, rfl, hok, by omega, by omega, by omega, by rw [ht]; exact hI.1⟩), fun x9 hx9 => (by cases hx9)⟩, hI.2.F ht⟩) hI.2.2.2 d_Mo_entry_245)
      · omega
  have j177z : ∀ (n : Nat) (H : Heap) (locs : List Loc) (ls : Array Slot) (v177z_3 v177z_4 v177z_5 v177z_6 v177z_7 v177z_8 v177z_9 v177z_10 : Int32) (t177z_lt : Int), sI (dC, dI) vcl cI cJ (gsM a th tr dp zi co sh t177z_lt ts mf) A s.heap H locs → okM th tr dp zi co sh t177z_lt ts mf → (-2147483648) ≤ v177z_3.toInt → v177z_3.toInt ≤ 2147483647 → (-2147483648) ≤ v177z_4.toInt → v177z_4.toInt ≤ 2147483647 → 0 ≤ v177z_5.toInt → v177z_5.toInt ≤ 511 → 1 ≤ v177z_6.toInt → v177z_6.toInt ≤ 511 → 5 ≤ v177z_7.toInt → v177z_7.toInt ≤ 255 → 0 ≤ v177z_8.toInt → v177z_8.toInt ≤ 65535 → 4 ≤ v177z_9.toInt → v177z_9.toInt ≤ 766 → 0 ≤ v177z_10.toInt → v177z_10.toInt ≤ 65535 → tr ≤ 0 → lv_has ls 11 [(0, .ref (a 0)), (1, .int x1), (2, .int x2), (3, .int v177z_3), (4, .int v177z_4), (5, .int v177z_5), (6, .int v177z_6), (7, .int v177z_7), (8, .int v177z_8), (9, .int v177z_9), (10, .int v177z_10)] → 65535 - v177z_10.toInt < (n : Int) → W p l e (headSpec tw_tbl rm_Mo_entry).room s m ([.ref (a 0), .int x1, .int x2] : List Value).toArray below meth c H locs 0 0 Z (F0 m 177 ls []) := by
    intro n
    induction n with
    | zero => intro H locs ls v177z_3 v177z_4 v177z_5 v177z_6 v177z_7 v177z_8 v177z_9 v177z_10 t177z_lt hI hok g177_0 g177_1 g177_2 g177_3 g177_4 g177_5 g177_6 g177_7 g177_8 g177_9 g177_10 g177_11 g177_12 g177_13 g177_14 g177_15 g177_16 hl hme; exfalso; obtain ⟨⟨o38, o39⟩, ⟨o40, o41⟩, ⟨o42, o43⟩, ⟨o44, o45⟩, ⟨o46, o47⟩, ⟨o48, o49⟩, ⟨o50, o51⟩, ⟨o52, o53⟩, -⟩ := id hok; omega
    | succ n ih =>
      intro H locs ls v177z_3 v177z_4 v177z_5 v177z_6 v177z_7 v177z_8 v177z_9 v177z_10 t177z_lt hI hok g177_0 g177_1 g177_2 g177_3 g177_4 g177_5 g177_6 g177_7 g177_8 g177_9 g177_10 g177_11 g177_12 g177_13 g177_14 g177_15 g177_16 hl hme
      obtain ⟨⟨o54, o55⟩, ⟨o56, o57⟩, ⟨o58, o59⟩, ⟨o60, o61⟩, ⟨o62, o63⟩, ⟨o64, o65⟩, ⟨o66, o67⟩, ⟨o68, o69⟩, -⟩ := id hok
      have j231p : ∀ (H : Heap) (locs : List Loc) (ls : Array Slot) (t231p_tr : Int), sI (dC, dI) vcl cI cJ (gsM a th t231p_tr dp zi co sh t177z_lt ts mf) A s.heap H locs → okM th t231p_tr dp zi co sh t177z_lt ts mf → 1 ≤ t231p_tr → t231p_tr ≤ 4 → tr ≤ 0 → v177z_10.toInt ≤ 65534 → 1 ≤ v177z_8.toInt → lv_has ls 11 [(0, .ref (a 0)), (1, .int x1), (2, .int x2), (3, .int v177z_3), (4, .int v177z_4), (5, .int v177z_5), (6, .int v177z_6), (7, .int v177z_7), (8, .int v177z_8), (9, .int v177z_9), (10, .int v177z_10)] → W p l e (headSpec tw_tbl rm_Mo_entry).room s m ([.ref (a 0), .int x1, .int x2] : List Value).toArray below meth c H locs 0 0 Z (F0 m 231 ls []) := by
        intro H locs ls t231p_tr hI hok g231_0 g231_1 g231_2 g231_3 g231_4 hl
        obtain ⟨⟨o70, o71⟩, ⟨o72, o73⟩, ⟨o74, o75⟩, ⟨o76, o77⟩, ⟨o78, o79⟩, ⟨o80, o81⟩, ⟨o82, o83⟩, ⟨o84, o85⟩, -⟩ := id hok
        refine lv_iload hx hb d_Mo_entry_231 (lv_at hl 9 rfl) ?_
        refine lv_iload hx hb d_Mo_entry_233 (lv_at hl 7 rfl) ?_
        refine sn_iadd hx hb d_Mo_entry_235 (by omega) (by omega) (fun z86 hz86 => ?_)
        refine lv_istore (lv' := [(9, .int z86), (0, .ref (a 0)), (1, .int x1), (2, .int x2), (3, .int v177z_3), (4, .int v177z_4), (5, .int v177z_5), (6, .int v177z_6), (7, .int v177z_7), (8, .int v177z_8), (10, .int v177z_10)]) hx hb d_Mo_entry_236 hl (by decide) rfl (fun ls hl => ?_)
        refine sn_iinc (k := 10) hx hb d_Mo_entry_238 hl rfl (by decide) (by decide) (by omega) (by omega) (fun ls z87 hz87 hl => ?_)
        have hl : lv_has ls 11 [(10, .int z87), (9, .int z86), (0, .ref (a 0)), (1, .int x1), (2, .int x2), (3, .int v177z_3), (4, .int v177z_4), (5, .int v177z_5), (6, .int v177z_6), (7, .int v177z_7), (8, .int v177z_8)] := hl
        refine lv_goto (tgt := 177) hx hb d_Mo_entry_241 (by decide) ?_
        exact j177p _ _ _ v177z_3 v177z_4 v177z_5 v177z_6 v177z_7 v177z_8 z86 z87 t231p_tr t177z_lt hI hok (by omega) (by omega) (by omega) (by omega) (by omega) (by omega) (by omega) (by omega) (by omega) (by omega) (by omega) (by omega) (by omega) (by omega) (by omega) (by omega) (by omega) (by omega) (by omega) (lv_sub hl [2, 3, 4, 5, 6, 7, 8, 9, 10, 1, 0] rfl)
      have j231z : ∀ (H : Heap) (locs : List Loc) (ls : Array Slot), sI (dC, dI) vcl cI cJ (gsM a th tr dp zi co sh t177z_lt ts mf) A s.heap H locs → okM th tr dp zi co sh t177z_lt ts mf → tr ≤ 0 → v177z_10.toInt ≤ 65534 → 1 ≤ v177z_8.toInt → v177z_9.toInt ≤ 511 → lv_has ls 11 [(0, .ref (a 0)), (1, .int x1), (2, .int x2), (3, .int v177z_3), (4, .int v177z_4), (5, .int v177z_5), (6, .int v177z_6), (7, .int v177z_7), (8, .int v177z_8), (9, .int v177z_9), (10, .int v177z_10)] → W p l e (headSpec tw_tbl rm_Mo_entry).room s m ([.ref (a 0), .int x1, .int x2] : List Value).toArray below meth c H locs 0 0 Z (F0 m 231 ls []) := by
        intro H locs ls hI hok g231_0 g231_1 g231_2 g231_3 hl
        obtain ⟨⟨o88, o89⟩, ⟨o90, o91⟩, ⟨o92, o93⟩, ⟨o94, o95⟩, ⟨o96, o97⟩, ⟨o98, o99⟩, ⟨o100, o101⟩, ⟨o102, o103⟩, -⟩ := id hok
        refine lv_iload hx hb d_Mo_entry_231 (lv_at hl 9 rfl) ?_
        refine lv_iload hx hb d_Mo_entry_233 (lv_at hl 7 rfl) ?_
        refine sn_iadd hx hb d_Mo_entry_235 (by omega) (by omega) (fun z104 hz104 => ?_)
        refine lv_istore (lv' := [(9, .int z104), (0, .ref (a 0)), (1, .int x1), (2, .int x2), (3, .int v177z_3), (4, .int v177z_4), (5, .int v177z_5), (6, .int v177z_6), (7, .int v177z_7), (8, .int v177z_8), (10, .int v177z_10)]) hx hb d_Mo_entry_236 hl (by decide) rfl (fun ls hl => ?_)
        refine sn_iinc (k := 10) hx hb d_Mo_entry_238 hl rfl (by decide) (by decide) (by omega) (by omega) (fun ls z105 hz105 hl => ?_)
        have hl : lv_has ls 11 [(10, .int z105), (9, .int z104), (0, .ref (a 0)), (1, .int x1), (2, .int x2), (3, .int v177z_3), (4, .int v177z_4), (5, .int v177z_5), (6, .int v177z_6), (7, .int v177z_7), (8, .int v177z_8)] := hl
        refine lv_goto (tgt := 177) hx hb d_Mo_entry_241 (by decide) ?_
        exact ih _ _ _ v177z_3 v177z_4 v177z_5 v177z_6 v177z_7 v177z_8 z104 z105 t177z_lt hI hok (by omega) (by omega) (by omega) (by omega) (by omega) (by omega) (by omega) (by omega) (by omega) (by omega) (by omega) (by omega) (by omega) (by omega) (by omega) (by omega) (by omega) (lv_sub hl [2, 3, 4, 5, 6, 7, 8, 9, 10, 1, 0] rfl) (by omega)
      refine lv_iload hx hb d_Mo_entry_177 (lv_at hl 10 rfl) ?_
      refine lv_iload hx hb d_Mo_entry_179 (lv_at hl 8 rfl) ?_
      refine sn_icmp_ge (tgt := 244) hx hb d_Mo_entry_181 (by decide) (fun b106 => ?_) (fun b106 => ?_)
      · refine sn_iconst hx hb d_Mo_entry_244 (by decide) (fun z107 hz107 => ?_)
        subst hZ
        exact tz_ret (W.iret (v := z107) hx hb hr (fun t ht hW => ⟨⟨fun v9 hv9 => by cases hv9; exact (Or.inr (⟨z107, t177z_lt, rfl, hok, by omega, by omega, by omega, by rw [ht]; exact hI.1⟩)), fun x9 hx9 => (by cases hx9)⟩, hI.2.F ht⟩) hI.2.2.2 d_Mo_entry_245)
      · refine lv_aload_n hx hb d_Mo_entry_184 rfl (lv_at hl 0 rfl) ?_
        refine sv_gete (C := "StoryMachineModel") (T := T_Mo) (N := 51) hx hb hts in_Mo hown hK hI 0 kM_0 rfl 25 (by decide) (hts _ mw_1088) rfl d_Mo_entry_185 (fun z108 hz108 => ?_)
        refine sn_if_ne (tgt := 244) hx hb d_Mo_entry_188 (by decide) (fun b109 => ?_) (fun b109 => ?_)
        · omega
        · refine lv_aload_n hx hb d_Mo_entry_191 rfl (lv_at hl 0 rfl) ?_
          refine lv_iload hx hb d_Mo_entry_192 (lv_at hl 9 rfl) ?_
          refine tz_call (A1 := ga (adM a) H.size) (tz_runV (C := "StoryMachineModel") (As := [.int v177z_9]) (rest := []) ⟨hx, hb, hml, hown, hts⟩ (c_Mo_wordAt l hfl dC dI cI cJ a H.size th tr dp zi co sh t177z_lt ts mf v177z_9 hok) (tx_cb (n := 1) hts rfl rfl ⟨Nat.le_of_ble_eq_true rfl, Nat.le_of_ble_eq_true rfl⟩ (tx_code.of (hts _ mw_1252)) (hts _ mw_12) (by decide +kernel) (hts _ mw_1249)) (hts _ mw_1251) (hts _ ms_Mo_wordAt) ⟨tz_blind, sv_recv (q0 := 0) hts in_Mo hK hI kM_0 rfl, fun U hU hW => ⟨rfl, by rw [hU], by rw [hU]; exact hI.1, va_K.moved hW.alike hK, hst _ _ hI.2 U hU hW⟩⟩ rfl rfl hl.1 rfl (lv_room (Nat.le_of_ble_eq_true rfl)) d_Mo_entry_194 ⟨Nat.le_of_ble_eq_true rfl, Nat.le_of_ble_eq_true rfl⟩) hI.2 (fun q _ h => ga_sub hAC hA0 hI.2 q h) (ga_sub hAC hA0 hI.2) (fun v t H1 locs1 ht hWt hpost _ _ hS => ?_) (fun x t H1 locs1 ht hWt hpost _ _ hS => (hpost.2 x rfl).elim)
          rcases hpost.1 _ rfl with ⟨z110, t_tr111, hv, c112, c112_0, c112_1, c112_2, hI1⟩ | ⟨z113, hv, c114, c114_0, c114_1, c114_2, c114_3, c114_4, hI1⟩
          · cases hv
            have hI : sI (dC, dI) vcl cI cJ (gsM a th t_tr111 dp zi co sh t177z_lt ts mf) A s.heap H1 locs1 := ⟨by rw [← ht]; exact hI1, hS⟩
            obtain ⟨-, ⟨o115, o116⟩, -, -, -, -, -, -, -⟩ := id c112
            clear hpost hI1 hS ht hWt
            revert hI; generalize H1 = H; generalize locs1 = locs; intro hI
            refine lv_iload_n hx hb d_Mo_entry_197 rfl (lv_at hl 3 rfl) ?_
            refine sn_icmp_ne (tgt := 231) hx hb d_Mo_entry_198 (by decide) (fun b117 => ?_) (fun b117 => ?_)
            · exact j231p _ _ _ t_tr111 hI c112 (by omega) (by omega) (by omega) (by omega) (by omega) (lv_sub hl [0, 1, 2, 3, 4, 5, 6, 7, 8, 9, 10] rfl)
            · refine lv_aload_n hx hb d_Mo_entry_201 rfl (lv_at hl 0 rfl) ?_
              refine sv_gete (C := "StoryMachineModel") (T := T_Mo) (N := 51) hx hb hts in_Mo hown hK hI 0 kM_0 rfl 25 (by decide) (hts _ mw_1088) rfl d_Mo_entry_202 (fun z118 hz118 => ?_)
              refine sn_if_ne (tgt := 231) hx hb d_Mo_entry_205 (by decide) (fun b119 => ?_) (fun b119 => ?_)
              · exact j231p _ _ _ t_tr111 hI c112 (by omega) (by omega) (by omega) (by omega) (by omega) (lv_sub hl [0, 1, 2, 3, 4, 5, 6, 7, 8, 9, 10] rfl)
              · omega
          · cases hv
            have hI : sI (dC, dI) vcl cI cJ (gsM a th tr dp zi co sh t177z_lt ts mf) A s.heap H1 locs1 := ⟨by rw [← ht]; exact hI1, hS⟩
            clear hpost hI1 hS ht hWt
            revert hI; generalize H1 = H; generalize locs1 = locs; intro hI
            refine lv_iload_n hx hb d_Mo_entry_197 rfl (lv_at hl 3 rfl) ?_
            refine sn_icmp_ne (tgt := 231) hx hb d_Mo_entry_198 (by decide) (fun b120 => ?_) (fun b120 => ?_)
            · exact j231z _ _ _  hI c114 (by omega) (by omega) (by omega) (by omega) (lv_sub hl [0, 1, 2, 3, 4, 5, 6, 7, 8, 9, 10] rfl)
            · refine lv_aload_n hx hb d_Mo_entry_201 rfl (lv_at hl 0 rfl) ?_
              refine sv_gete (C := "StoryMachineModel") (T := T_Mo) (N := 51) hx hb hts in_Mo hown hK hI 0 kM_0 rfl 25 (by decide) (hts _ mw_1088) rfl d_Mo_entry_202 (fun z121 hz121 => ?_)
              refine sn_if_ne (tgt := 231) hx hb d_Mo_entry_205 (by decide) (fun b122 => ?_) (fun b122 => ?_)
              · omega
              · refine lv_aload_n hx hb d_Mo_entry_208 rfl (lv_at hl 0 rfl) ?_
                refine lv_iload hx hb d_Mo_entry_209 (lv_at hl 9 rfl) ?_
                refine sn_iconst hx hb d_Mo_entry_211 (by decide) (fun z123 hz123 => ?_)
                refine sn_iadd hx hb d_Mo_entry_212 (by omega) (by omega) (fun z124 hz124 => ?_)
                refine tz_call (A1 := ga (adM a) H.size) (tz_runV (C := "StoryMachineModel") (As := [.int z124]) (rest := []) ⟨hx, hb, hml, hown, hts⟩ (c_Mo_wordAt l hfl dC dI cI cJ a H.size th tr dp zi co sh t177z_lt ts mf z124 c114) (tx_cb (n := 1) hts rfl rfl ⟨Nat.le_of_ble_eq_true rfl, Nat.le_of_ble_eq_true rfl⟩ (tx_code.of (hts _ mw_1252)) (hts _ mw_12) (by decide +kernel) (hts _ mw_1249)) (hts _ mw_1251) (hts _ ms_Mo_wordAt) ⟨tz_blind, sv_recv (q0 := 0) hts in_Mo hK hI kM_0 rfl, fun U hU hW => ⟨rfl, by rw [hU], by rw [hU]; exact hI.1, va_K.moved hW.alike hK, hst _ _ hI.2 U hU hW⟩⟩ rfl rfl hl.1 rfl (lv_room (Nat.le_of_ble_eq_true rfl)) d_Mo_entry_213 ⟨Nat.le_of_ble_eq_true rfl, Nat.le_of_ble_eq_true rfl⟩) hI.2 (fun q _ h => ga_sub hAC hA0 hI.2 q h) (ga_sub hAC hA0 hI.2) (fun v t H1 locs1 ht hWt hpost _ _ hS => ?_) (fun x t H1 locs1 ht hWt hpost _ _ hS => (hpost.2 x rfl).elim)
                rcases hpost.1 _ rfl with ⟨z125, t_tr126, hv, c127, c127_0, c127_1, c127_2, hI1⟩ | ⟨z128, hv, c129, c129_0, c129_1, c129_2, c129_3, c129_4, hI1⟩
                · cases hv
                  have hI : sI (dC, dI) vcl cI cJ (gsM a th t_tr126 dp zi co sh t177z_lt ts mf) A s.heap H1 locs1 := ⟨by rw [← ht]; exact hI1, hS⟩
                  obtain ⟨-, ⟨o130, o131⟩, -, -, -, -, -, -, -⟩ := id c127
                  clear hpost hI1 hS ht hWt
                  revert hI; generalize H1 = H; generalize locs1 = locs; intro hI
                  refine lv_iload hx hb d_Mo_entry_216 (lv_at hl 4 rfl) ?_
                  refine sn_icmp_ne (tgt := 231) hx hb d_Mo_entry_218 (by decide) (fun b132 => ?_) (fun b132 => ?_)
                  · exact j231p _ _ _ t_tr126 hI c127 (by omega) (by omega) (by omega) (by omega) (by omega) (lv_sub hl [0, 1, 2, 3, 4, 5, 6, 7, 8, 9, 10] rfl)
                  · refine lv_aload_n hx hb d_Mo_entry_221 rfl (lv_at hl 0 rfl) ?_
                    refine sv_gete (C := "StoryMachineModel") (T := T_Mo) (N := 51) hx hb hts in_Mo hown hK hI 0 kM_0 rfl 25 (by decide) (hts _ mw_1088) rfl d_Mo_entry_222 (fun z133 hz133 => ?_)
                    refine sn_if_ne (tgt := 231) hx hb d_Mo_entry_225 (by decide) (fun b134 => ?_) (fun b134 => ?_)
                    · exact j231p _ _ _ t_tr126 hI c127 (by omega) (by omega) (by omega) (by omega) (by omega) (lv_sub hl [0, 1, 2, 3, 4, 5, 6, 7, 8, 9, 10] rfl)
                    · omega
                · cases hv
                  have hI : sI (dC, dI) vcl cI cJ (gsM a th tr dp zi co sh t177z_lt ts mf) A s.heap H1 locs1 := ⟨by rw [← ht]; exact hI1, hS⟩
                  clear hpost hI1 hS ht hWt
                  revert hI; generalize H1 = H; generalize locs1 = locs; intro hI
                  refine lv_iload hx hb d_Mo_entry_216 (lv_at hl 4 rfl) ?_
                  refine sn_icmp_ne (tgt := 231) hx hb d_Mo_entry_218 (by decide) (fun b135 => ?_) (fun b135 => ?_)
                  · exact j231z _ _ _  hI c129 (by omega) (by omega) (by omega) (by omega) (lv_sub hl [0, 1, 2, 3, 4, 5, 6, 7, 8, 9, 10] rfl)
                  · refine lv_aload_n hx hb d_Mo_entry_221 rfl (lv_at hl 0 rfl) ?_
                    refine sv_gete (C := "StoryMachineModel") (T := T_Mo) (N := 51) hx hb hts in_Mo hown hK hI 0 kM_0 rfl 25 (by decide) (hts _ mw_1088) rfl d_Mo_entry_222 (fun z136 hz136 => ?_)
                    refine sn_if_ne (tgt := 231) hx hb d_Mo_entry_225 (by decide) (fun b137 => ?_) (fun b137 => ?_)
                    · omega
                    · refine lv_iload hx hb d_Mo_entry_228 (lv_at hl 9 rfl) ?_
                      subst hZ
                      exact tz_ret (W.iret (v := v177z_9) hx hb hr (fun t ht hW => ⟨⟨fun v9 hv9 => by cases hv9; exact (Or.inr (⟨v177z_9, t177z_lt, rfl, c129, by omega, by omega, by omega, by rw [ht]; exact hI.1⟩)), fun x9 hx9 => (by cases hx9)⟩, hI.2.F ht⟩) hI.2.2.2 d_Mo_entry_230)
  have j28p : ∀ (n : Nat) (H : Heap) (locs : List Loc) (ls : Array Slot) (v28p_3 : Int32) (t28p_tr t28p_lt : Int), sI (dC, dI) vcl cI cJ (gsM a th t28p_tr dp zi co sh t28p_lt ts mf) A s.heap H locs → okM th t28p_tr dp zi co sh t28p_lt ts mf → 1 ≤ v28p_3.toInt → v28p_3.toInt ≤ 24 → 1 ≤ t28p_tr → t28p_tr ≤ 4 → 1 ≤ t28p_lt → t28p_lt ≤ 1000 → 1 ≤ x2.toInt → t28p_lt ≤ 4 * v28p_3.toInt → lv_has ls 11 [(0, .ref (a 0)), (1, .int x1), (2, .int x2), (3, .int v28p_3)] → 24 - v28p_3.toInt < (n : Int) → W p l e (headSpec tw_tbl rm_Mo_entry).room s m ([.ref (a 0), .int x1, .int x2] : List Value).toArray below meth c H locs 0 0 Z (F0 m 28 ls []) := by
    intro n
    induction n with
    | zero => intro H locs ls v28p_3 t28p_tr t28p_lt hI hok g28_0 g28_1 g28_2 g28_3 g28_4 g28_5 g28_6 g28_7 hl hme; exfalso; obtain ⟨⟨o138, o139⟩, ⟨o140, o141⟩, ⟨o142, o143⟩, ⟨o144, o145⟩, ⟨o146, o147⟩, ⟨o148, o149⟩, ⟨o150, o151⟩, ⟨o152, o153⟩, -⟩ := id hok; omega
    | succ n ih =>
      intro H locs ls v28p_3 t28p_tr t28p_lt hI hok g28_0 g28_1 g28_2 g28_3 g28_4 g28_5 g28_6 g28_7 hl hme
      obtain ⟨⟨o154, o155⟩, ⟨o156, o157⟩, ⟨o158, o159⟩, ⟨o160, o161⟩, ⟨o162, o163⟩, ⟨o164, o165⟩, ⟨o166, o167⟩, ⟨o168, o169⟩, -⟩ := id hok
      refine lv_iload_n hx hb d_Mo_entry_28 rfl (lv_at hl 3 rfl) ?_
      refine lv_iload_n hx hb d_Mo_entry_29 rfl (lv_at hl 2 rfl) ?_
      refine sn_icmp_ge (tgt := 50) hx hb d_Mo_entry_30 (by decide) (fun b170 => ?_) (fun b170 => ?_)
      · refine lv_aload_n hx hb d_Mo_entry_50 rfl (lv_at hl 0 rfl) ?_
        refine sv_getr (C := "StoryMachineModel") (T := T_Mo) (N := 51) hx hb hts in_Mo hown hK hI 0 kM_0 rfl 48 (by decide) (hts _ mw_1111) rfl d_Mo_entry_51 ?_
        refine sn_iconst hx hb d_Mo_entry_54 (by decide) (fun z171 hz171 => ?_)
        refine sv_ialdr hx hb hK hI 19 kM_19 (by omega) (by omega) d_Mo_entry_55 (fun z172 hz172a hz172b => ?_)
        refine sn_bipush hx hb d_Mo_entry_56 (by decide) (fun z173 hz173 => ?_)
        refine sn_imulT hx hb d_Mo_entry_58 (fun z174 hz174a hz174b => ?_)
        refine lv_aload_n hx hb d_Mo_entry_59 rfl (lv_at hl 0 rfl) ?_
        refine sv_getr (C := "StoryMachineModel") (T := T_Mo) (N := 51) hx hb hts in_Mo hown hK hI 0 kM_0 rfl 48 (by decide) (hts _ mw_1111) rfl d_Mo_entry_60 ?_
        refine sn_iconst hx hb d_Mo_entry_63 (by decide) (fun z175 hz175 => ?_)
        refine sv_ialdr hx hb hK hI 19 kM_19 (by omega) (by omega) d_Mo_entry_64 (fun z176 hz176a hz176b => ?_)
        refine sn_iaddT hx hb d_Mo_entry_65 (fun z177 hz177a hz177b => ?_)
        refine sn_bipush hx hb d_Mo_entry_66 (by decide) (fun z178 hz178 => ?_)
        refine sn_imulT hx hb d_Mo_entry_68 (fun z179 hz179a hz179b => ?_)
        refine lv_aload_n hx hb d_Mo_entry_69 rfl (lv_at hl 0 rfl) ?_
        refine sv_getr (C := "StoryMachineModel") (T := T_Mo) (N := 51) hx hb hts in_Mo hown hK hI 0 kM_0 rfl 48 (by decide) (hts _ mw_1111) rfl d_Mo_entry_70 ?_
        refine sn_iconst hx hb d_Mo_entry_73 (by decide) (fun z180 hz180 => ?_)
        refine sv_ialdr hx hb hK hI 19 kM_19 (by omega) (by omega) d_Mo_entry_74 (fun z181 hz181a hz181b => ?_)
        refine sn_iaddT hx hb d_Mo_entry_75 (fun z182 hz182a hz182b => ?_)
        refine lv_istore_n (lv' := [(3, .int z182), (0, .ref (a 0)), (1, .int x1), (2, .int x2)]) hx hb d_Mo_entry_76 rfl hl (by decide) rfl (fun ls hl => ?_)
        refine lv_aload_n hx hb d_Mo_entry_77 rfl (lv_at hl 1 rfl) ?_
        refine sv_getr (C := "StoryMachineModel") (T := T_Mo) (N := 51) hx hb hts in_Mo hown hK hI 0 kM_0 rfl 48 (by decide) (hts _ mw_1111) rfl d_Mo_entry_78 ?_
        refine sn_iconst hx hb d_Mo_entry_81 (by decide) (fun z183 hz183 => ?_)
        refine sv_ialdr hx hb hK hI 19 kM_19 (by omega) (by omega) d_Mo_entry_82 (fun z184 hz184a hz184b => ?_)
        refine sn_bipush hx hb d_Mo_entry_83 (by decide) (fun z185 hz185 => ?_)
        refine sn_imulT hx hb d_Mo_entry_85 (fun z186 hz186a hz186b => ?_)
        refine lv_aload_n hx hb d_Mo_entry_86 rfl (lv_at hl 1 rfl) ?_
        refine sv_getr (C := "StoryMachineModel") (T := T_Mo) (N := 51) hx hb hts in_Mo hown hK hI 0 kM_0 rfl 48 (by decide) (hts _ mw_1111) rfl d_Mo_entry_87 ?_
        refine sn_iconst hx hb d_Mo_entry_90 (by decide) (fun z187 hz187 => ?_)
        refine sv_ialdr hx hb hK hI 19 kM_19 (by omega) (by omega) d_Mo_entry_91 (fun z188 hz188a hz188b => ?_)
        refine sn_iaddT hx hb d_Mo_entry_92 (fun z189 hz189a hz189b => ?_)
        refine sn_bipush hx hb d_Mo_entry_93 (by decide) (fun z190 hz190 => ?_)
        refine sn_imulT hx hb d_Mo_entry_95 (fun z191 hz191a hz191b => ?_)
        refine lv_aload_n hx hb d_Mo_entry_96 rfl (lv_at hl 1 rfl) ?_
        refine sv_getr (C := "StoryMachineModel") (T := T_Mo) (N := 51) hx hb hts in_Mo hown hK hI 0 kM_0 rfl 48 (by decide) (hts _ mw_1111) rfl d_Mo_entry_97 ?_
        refine sn_iconst hx hb d_Mo_entry_100 (by decide) (fun z192 hz192 => ?_)
        refine sv_ialdr hx hb hK hI 19 kM_19 (by omega) (by omega) d_Mo_entry_101 (fun z193 hz193a hz193b => ?_)
        refine sn_iaddT hx hb d_Mo_entry_102 (fun z194 hz194a hz194b => ?_)
        refine sn_ldc (n := 32768) hx hb hown (hts _ mw_1402) d_Mo_entry_103 (by decide) (fun z195 hz195 => ?_)
        refine sn_iaddT hx hb d_Mo_entry_105 (fun z196 hz196a hz196b => ?_)
        refine lv_istore (lv' := [(4, .int z196), (3, .int z182), (0, .ref (a 0)), (1, .int x1), (2, .int x2)]) hx hb d_Mo_entry_106 hl (by decide) rfl (fun ls hl => ?_)
        refine lv_aload_n hx hb d_Mo_entry_108 rfl (lv_at hl 2 rfl) ?_
        refine sn_bipush hx hb d_Mo_entry_109 (by decide) (fun z197 hz197 => ?_)
        refine tz_call (A1 := ga (adM a) H.size) (tz_runV (C := "StoryMachineModel") (As := [.int z197]) (rest := []) ⟨hx, hb, hml, hown, hts⟩ (c_Mo_wordAt l hfl dC dI cI cJ a H.size th t28p_tr dp zi co sh t28p_lt ts mf z197 hok) (tx_cb (n := 1) hts rfl rfl ⟨Nat.le_of_ble_eq_true rfl, Nat.le_of_ble_eq_true rfl⟩ (tx_code.of (hts _ mw_1252)) (hts _ mw_12) (by decide +kernel) (hts _ mw_1249)) (hts _ mw_1251) (hts _ ms_Mo_wordAt) ⟨tz_blind, sv_recv (q0 := 0) hts in_Mo hK hI kM_0 rfl, fun U hU hW => ⟨rfl, by rw [hU], by rw [hU]; exact hI.1, va_K.moved hW.alike hK, hst _ _ hI.2 U hU hW⟩⟩ rfl rfl hl.1 rfl (lv_room (Nat.le_of_ble_eq_true rfl)) d_Mo_entry_111 ⟨Nat.le_of_ble_eq_true rfl, Nat.le_of_ble_eq_true rfl⟩) hI.2 (fun q _ h => ga_sub hAC hA0 hI.2 q h) (ga_sub hAC hA0 hI.2) (fun v t H1 locs1 ht hWt hpost _ _ hS => ?_) (fun x t H1 locs1 ht hWt hpost _ _ hS => (hpost.2 x rfl).elim)
        rcases hpost.1 _ rfl with ⟨z198, t_tr199, hv, c200, c200_0, c200_1, c200_2, hI1⟩ | ⟨z201, hv, c202, c202_0, c202_1, c202_2, c202_3, c202_4, hI1⟩
        · cases hv
          have hI : sI (dC, dI) vcl cI cJ (gsM a th t_tr199 dp zi co sh t28p_lt ts mf) A s.heap H1 locs1 := ⟨by rw [← ht]; exact hI1, hS⟩
          obtain ⟨-, ⟨o203, o204⟩, -, -, -, -, -, -, -⟩ := id c200
          clear hpost hI1 hS ht hWt
          revert hI; generalize H1 = H; generalize locs1 = locs; intro hI
          refine lv_istore (lv' := [(5, .int z198), (4, .int z196), (3, .int z182), (0, .ref (a 0)), (1, .int x1), (2, .int x2)]) hx hb d_Mo_entry_114 hl (by decide) rfl (fun ls hl => ?_)
          refine lv_iload hx hb d_Mo_entry_116 (lv_at hl 0 rfl) ?_
          refine sn_iconst hx hb d_Mo_entry_118 (by decide) (fun z205 hz205 => ?_)
          refine sn_iadd hx hb d_Mo_entry_119 (by omega) (by omega) (fun z206 hz206 => ?_)
          refine lv_aload_n hx hb d_Mo_entry_120 rfl (lv_at hl 3 rfl) ?_
          refine lv_iload hx hb d_Mo_entry_121 (lv_at hl 0 rfl) ?_
          refine tz_call (A1 := ga (adM a) H.size) (tz_runV (C := "StoryMachineModel") (As := [.int z198]) (rest := [.int z206]) ⟨hx, hb, hml, hown, hts⟩ (c_Mo_byteAt l hfl dC dI cI cJ a H.size th t_tr199 dp zi co sh t28p_lt ts mf z198 c200) (tx_cb (n := 1) hts rfl rfl ⟨Nat.le_of_ble_eq_true rfl, Nat.le_of_ble_eq_true rfl⟩ (tx_code.of (hts _ mw_1236)) (hts _ mw_12) (by decide +kernel) (hts _ mw_1233)) (hts _ mw_1235) (hts _ ms_Mo_byteAt) ⟨tz_blind, sv_recv (q0 := 0) hts in_Mo hK hI kM_0 rfl, fun U hU hW => ⟨rfl, by rw [hU], by rw [hU]; exact hI.1, va_K.moved hW.alike hK, hst _ _ hI.2 U hU hW⟩⟩ rfl rfl hl.1 rfl (lv_room (Nat.le_of_ble_eq_true rfl)) d_Mo_entry_123 ⟨Nat.le_of_ble_eq_true rfl, Nat.le_of_ble_eq_true rfl⟩) hI.2 (fun q _ h => ga_sub hAC hA0 hI.2 q h) (ga_sub hAC hA0 hI.2) (fun v t H1 locs1 ht hWt hpost _ _ hS => ?_) (fun x t H1 locs1 ht hWt hpost _ _ hS => (hpost.2 x rfl).elim)
          rcases hpost.1 _ rfl with ⟨z207, t_tr208, hv, c209, c209_0, c209_1, c209_2, hI1⟩ | ⟨z210, hv, c211, c211_0, c211_1, c211_2, c211_3, c211_4, hI1⟩
          · cases hv
            have hI : sI (dC, dI) vcl cI cJ (gsM a th t_tr208 dp zi co sh t28p_lt ts mf) A s.heap H1 locs1 := ⟨by rw [← ht]; exact hI1, hS⟩
            obtain ⟨-, ⟨o212, o213⟩, -, -, -, -, -, -, -⟩ := id c209
            clear hpost hI1 hS ht hWt
            revert hI; generalize H1 = H; generalize locs1 = locs; intro hI
            refine sn_iadd hx hb d_Mo_entry_126 (by omega) (by omega) (fun z214 hz214 => ?_)
            refine lv_istore (lv' := [(6, .int z214), (5, .int z198), (4, .int z196), (3, .int z182), (0, .ref (a 0)), (1, .int x1), (2, .int x2)]) hx hb d_Mo_entry_127 hl (by decide) rfl (fun ls hl => ?_)
            refine lv_aload_n hx hb d_Mo_entry_129 rfl (lv_at hl 4 rfl) ?_
            refine lv_iload hx hb d_Mo_entry_130 (lv_at hl 0 rfl) ?_
            refine tz_call (A1 := ga (adM a) H.size) (tz_runV (C := "StoryMachineModel") (As := [.int z214]) (rest := []) ⟨hx, hb, hml, hown, hts⟩ (c_Mo_byteAt l hfl dC dI cI cJ a H.size th t_tr208 dp zi co sh t28p_lt ts mf z214 c209) (tx_cb (n := 1) hts rfl rfl ⟨Nat.le_of_ble_eq_true rfl, Nat.le_of_ble_eq_true rfl⟩ (tx_code.of (hts _ mw_1236)) (hts _ mw_12) (by decide +kernel) (hts _ mw_1233)) (hts _ mw_1235) (hts _ ms_Mo_byteAt) ⟨tz_blind, sv_recv (q0 := 0) hts in_Mo hK hI kM_0 rfl, fun U hU hW => ⟨rfl, by rw [hU], by rw [hU]; exact hI.1, va_K.moved hW.alike hK, hst _ _ hI.2 U hU hW⟩⟩ rfl rfl hl.1 rfl (lv_room (Nat.le_of_ble_eq_true rfl)) d_Mo_entry_132 ⟨Nat.le_of_ble_eq_true rfl, Nat.le_of_ble_eq_true rfl⟩) hI.2 (fun q _ h => ga_sub hAC hA0 hI.2 q h) (ga_sub hAC hA0 hI.2) (fun v t H1 locs1 ht hWt hpost _ _ hS => ?_) (fun x t H1 locs1 ht hWt hpost _ _ hS => (hpost.2 x rfl).elim)
            rcases hpost.1 _ rfl with ⟨z215, t_tr216, hv, c217, c217_0, c217_1, c217_2, hI1⟩ | ⟨z218, hv, c219, c219_0, c219_1, c219_2, c219_3, c219_4, hI1⟩
            · cases hv
              have hI : sI (dC, dI) vcl cI cJ (gsM a th t_tr216 dp zi co sh t28p_lt ts mf) A s.heap H1 locs1 := ⟨by rw [← ht]; exact hI1, hS⟩
              obtain ⟨-, ⟨o220, o221⟩, -, -, -, -, -, -, -⟩ := id c217
              clear hpost hI1 hS ht hWt
              revert hI; generalize H1 = H; generalize locs1 = locs; intro hI
              refine lv_istore (lv' := [(7, .int z215), (6, .int z214), (5, .int z198), (4, .int z196), (3, .int z182), (0, .ref (a 0)), (1, .int x1), (2, .int x2)]) hx hb d_Mo_entry_135 hl (by decide) rfl (fun ls hl => ?_)
              refine lv_aload_n hx hb d_Mo_entry_137 rfl (lv_at hl 5 rfl) ?_
              refine lv_iload hx hb d_Mo_entry_138 (lv_at hl 0 rfl) ?_
              refine sn_iconst hx hb d_Mo_entry_140 (by decide) (fun z222 hz222 => ?_)
              refine sn_icmp_le (tgt := 148) hx hb d_Mo_entry_141 (by decide) (fun b223 => ?_) (fun b223 => ?_)
              · refine sn_iconst hx hb d_Mo_entry_148 (by decide) (fun z224 hz224 => ?_)
                refine sn_iconst hx hb d_Mo_entry_149 (by decide) (fun z225 hz225 => ?_)
                refine tz_call (A1 := ga (adM a) H.size) (tz_runV (C := "StoryMachineModel") (As := [.int z224, .int z225]) (rest := []) ⟨hx, hb, hml, hown, hts⟩ (c_Mo_good l hfl dC dI cI cJ a H.size th t_tr216 dp zi co sh t28p_lt ts mf z224 z225 c217 (by omega) (by omega) (by omega) (by omega)) (tx_cb (n := 2) hts rfl rfl ⟨Nat.le_of_ble_eq_true rfl, Nat.le_of_ble_eq_true rfl⟩ (tx_code.of (hts _ mw_1240)) (hts _ mw_12) (by decide +kernel) (hts _ mw_1237)) (hts _ mw_1239) (hts _ ms_Mo_good) ⟨tz_blind, sv_recv (q0 := 0) hts in_Mo hK hI kM_0 rfl, fun U hU hW => ⟨rfl, by rw [hU], by rw [hU]; exact hI.1, va_K.moved hW.alike hK, hst _ _ hI.2 U hU hW⟩⟩ rfl rfl hl.1 rfl (lv_room (Nat.le_of_ble_eq_true rfl)) d_Mo_entry_150 ⟨Nat.le_of_ble_eq_true rfl, Nat.le_of_ble_eq_true rfl⟩) hI.2 (fun q _ h => ga_sub hAC hA0 hI.2 q h) (ga_sub hAC hA0 hI.2) (fun v t H1 locs1 ht hWt hpost _ _ hS => ?_) (fun x t H1 locs1 ht hWt hpost _ _ hS => (hpost.2 x rfl).elim)
                rcases hpost.1 _ rfl with ⟨z226, t_tr227, hv, c228, c228_0, c228_1, c228_2, c228_3, hI1⟩ | ⟨z229, hv, c230, c230_0, c230_1, c230_2, c230_3, hI1⟩
                · cases hv
                  have hI : sI (dC, dI) vcl cI cJ (gsM a th t_tr227 dp zi co sh t28p_lt ts mf) A s.heap H1 locs1 := ⟨by rw [← ht]; exact hI1, hS⟩
                  obtain ⟨-, ⟨o231, o232⟩, -, -, -, -, -, -, -⟩ := id c228
                  clear hpost hI1 hS ht hWt
                  revert hI; generalize H1 = H; generalize locs1 = locs; intro hI
                  refine sn_if_ne (tgt := 158) hx hb d_Mo_entry_153 (by decide) (fun b233 => ?_) (fun b233 => ?_)
                  · omega
                  · refine sn_iconst hx hb d_Mo_entry_156 (by decide) (fun z234 hz234 => ?_)
                    subst hZ
                    exact tz_ret (W.iret (v := z234) hx hb hr (fun t ht hW => ⟨⟨fun v9 hv9 => by cases hv9; exact (Or.inl ⟨z234, t_tr227, t28p_lt, rfl, c228, by omega, by omega, by omega, by rw [ht]; exact hI.1⟩), fun x9 hx9 => (by cases hx9)⟩, hI.2.F ht⟩) hI.2.2.2 d_Mo_entry_157)
                · omega
              · omega
            · omega
          · omega
        · omega
      · refine lv_aload_n hx hb d_Mo_entry_33 rfl (lv_at hl 0 rfl) ?_
        refine lv_aload_n hx hb d_Mo_entry_34 rfl (lv_at hl 0 rfl) ?_
        refine lv_iload_n hx hb d_Mo_entry_35 rfl (lv_at hl 1 rfl) ?_
        refine lv_iload_n hx hb d_Mo_entry_36 rfl (lv_at hl 3 rfl) ?_
        refine sn_iadd hx hb d_Mo_entry_37 (by omega) (by omega) (fun z235 hz235 => ?_)
        refine tz_call (A1 := ga (adM a) H.size) (tz_runV (C := "StoryMachineModel") (As := [.int z235]) (rest := [.ref (a 0)]) ⟨hx, hb, hml, hown, hts⟩ (c_Mo_byteAt l hfl dC dI cI cJ a H.size th t28p_tr dp zi co sh t28p_lt ts mf z235 hok) (tx_cb (n := 1) hts rfl rfl ⟨Nat.le_of_ble_eq_true rfl, Nat.le_of_ble_eq_true rfl⟩ (tx_code.of (hts _ mw_1236)) (hts _ mw_12) (by decide +kernel) (hts _ mw_1233)) (hts _ mw_1235) (hts _ ms_Mo_byteAt) ⟨tz_blind, sv_recv (q0 := 0) hts in_Mo hK hI kM_0 rfl, fun U hU hW => ⟨rfl, by rw [hU], by rw [hU]; exact hI.1, va_K.moved hW.alike hK, hst _ _ hI.2 U hU hW⟩⟩ rfl rfl hl.1 rfl (lv_room (Nat.le_of_ble_eq_true rfl)) d_Mo_entry_38 ⟨Nat.le_of_ble_eq_true rfl, Nat.le_of_ble_eq_true rfl⟩) hI.2 (fun q _ h => ga_sub hAC hA0 hI.2 q h) (ga_sub hAC hA0 hI.2) (fun v t H1 locs1 ht hWt hpost _ _ hS => ?_) (fun x t H1 locs1 ht hWt hpost _ _ hS => (hpost.2 x rfl).elim)
        rcases hpost.1 _ rfl with ⟨z236, t_tr237, hv, c238, c238_0, c238_1, c238_2, hI1⟩ | ⟨z239, hv, c240, c240_0, c240_1, c240_2, c240_3, c240_4, hI1⟩
        · cases hv
          have hI : sI (dC, dI) vcl cI cJ (gsM a th t_tr237 dp zi co sh t28p_lt ts mf) A s.heap H1 locs1 := ⟨by rw [← ht]; exact hI1, hS⟩
          obtain ⟨-, ⟨o241, o242⟩, -, -, -, -, -, -, -⟩ := id c238
          clear hpost hI1 hS ht hWt
          revert hI; generalize H1 = H; generalize locs1 = locs; intro hI
          refine tz_call (A1 := ga (adM a) H.size) (tz_runV (C := "StoryMachineModel") (As := [.int z236]) (rest := []) ⟨hx, hb, hml, hown, hts⟩ (c_Mo_addCharacter l hfl dC dI cI cJ a H.size th t_tr237 dp zi co sh t28p_lt ts mf z236 c238 (by omega) (by omega) (by omega)) (tx_cb (n := 1) hts rfl rfl ⟨Nat.le_of_ble_eq_true rfl, Nat.le_of_ble_eq_true rfl⟩ (tx_code.of (hts _ mw_1480)) (hts _ mw_12) (by decide +kernel) (hts _ mw_1477)) (hts _ mw_1479) (hts _ ms_Mo_addCharacter) ⟨tz_blind, sv_recv (q0 := 0) hts in_Mo hK hI kM_0 rfl, fun U hU hW => ⟨rfl, by rw [hU], by rw [hU]; exact hI.1, va_K.moved hW.alike hK, hst _ _ hI.2 U hU hW⟩⟩ rfl rfl hl.1 rfl (lv_room (Nat.le_of_ble_eq_true rfl)) d_Mo_entry_41 ⟨Nat.le_of_ble_eq_true rfl, Nat.le_of_ble_eq_true rfl⟩) hI.2 (fun q _ h => ga_sub hAC hA0 hI.2 q h) (ga_sub hAC hA0 hI.2) (fun v t H1 locs1 ht hWt hpost _ _ hS => ?_) (fun x t H1 locs1 ht hWt hpost _ _ hS => (hpost.2 x rfl).elim)
          rcases hpost.1 _ rfl with ⟨t_lt243, hv, c244, c244_0, c244_1, hI1⟩
          cases hv
          have hI : sI (dC, dI) vcl cI cJ (gsM a th t_tr237 dp zi co sh t_lt243 ts mf) A s.heap H1 locs1 := ⟨by rw [← ht]; exact hI1, hS⟩
          obtain ⟨-, -, -, -, -, -, ⟨o245, o246⟩, -, -⟩ := id c244
          clear hpost hI1 hS ht hWt
          revert hI; generalize H1 = H; generalize locs1 = locs; intro hI
          refine sn_iinc (k := 3) hx hb d_Mo_entry_44 hl rfl (by decide) (by decide) (by omega) (by omega) (fun ls z247 hz247 hl => ?_)
          have hl : lv_has ls 11 [(3, .int z247), (0, .ref (a 0)), (1, .int x1), (2, .int x2)] := hl
          refine lv_goto (tgt := 28) hx hb d_Mo_entry_47 (by decide) ?_
          exact ih _ _ _ z247 t_tr237 t_lt243 hI c244 (by omega) (by omega) (by omega) (by omega) (by omega) (by omega) (by omega) (by omega) (lv_sub hl [1, 2, 3, 0] rfl) (by omega)
        · omega
  have j28z : ∀ (n : Nat) (H : Heap) (locs : List Loc) (ls : Array Slot) (v28z_3 : Int32) (t28z_lt : Int), sI (dC, dI) vcl cI cJ (gsM a th tr dp zi co sh t28z_lt ts mf) A s.heap H locs → okM th tr dp zi co sh t28z_lt ts mf → 1 ≤ v28z_3.toInt → v28z_3.toInt ≤ 24 → 1 ≤ t28z_lt → t28z_lt ≤ 1000 → tr ≤ 0 → 1 ≤ x2.toInt → t28z_lt ≤ 4 * v28z_3.toInt → lv_has ls 11 [(0, .ref (a 0)), (1, .int x1), (2, .int x2), (3, .int v28z_3)] → 24 - v28z_3.toInt < (n : Int) → W p l e (headSpec tw_tbl rm_Mo_entry).room s m ([.ref (a 0), .int x1, .int x2] : List Value).toArray below meth c H locs 0 0 Z (F0 m 28 ls []) := by
    intro n
    induction n with
    | zero => intro H locs ls v28z_3 t28z_lt hI hok g28_0 g28_1 g28_2 g28_3 g28_4 g28_5 g28_6 hl hme; exfalso; obtain ⟨⟨o248, o249⟩, ⟨o250, o251⟩, ⟨o252, o253⟩, ⟨o254, o255⟩, ⟨o256, o257⟩, ⟨o258, o259⟩, ⟨o260, o261⟩, ⟨o262, o263⟩, -⟩ := id hok; omega
    | succ n ih =>
      intro H locs ls v28z_3 t28z_lt hI hok g28_0 g28_1 g28_2 g28_3 g28_4 g28_5 g28_6 hl hme
      obtain ⟨⟨o264, o265⟩, ⟨o266, o267⟩, ⟨o268, o269⟩, ⟨o270, o271⟩, ⟨o272, o273⟩, ⟨o274, o275⟩, ⟨o276, o277⟩, ⟨o278, o279⟩, -⟩ := id hok
      refine lv_iload_n hx hb d_Mo_entry_28 rfl (lv_at hl 3 rfl) ?_
      refine lv_iload_n hx hb d_Mo_entry_29 rfl (lv_at hl 2 rfl) ?_
      refine sn_icmp_ge (tgt := 50) hx hb d_Mo_entry_30 (by decide) (fun b280 => ?_) (fun b280 => ?_)
      · refine lv_aload_n hx hb d_Mo_entry_50 rfl (lv_at hl 0 rfl) ?_
        refine sv_getr (C := "StoryMachineModel") (T := T_Mo) (N := 51) hx hb hts in_Mo hown hK hI 0 kM_0 rfl 48 (by decide) (hts _ mw_1111) rfl d_Mo_entry_51 ?_
        refine sn_iconst hx hb d_Mo_entry_54 (by decide) (fun z281 hz281 => ?_)
        refine sv_ialdr hx hb hK hI 19 kM_19 (by omega) (by omega) d_Mo_entry_55 (fun z282 hz282a hz282b => ?_)
        refine sn_bipush hx hb d_Mo_entry_56 (by decide) (fun z283 hz283 => ?_)
        refine sn_imulT hx hb d_Mo_entry_58 (fun z284 hz284a hz284b => ?_)
        refine lv_aload_n hx hb d_Mo_entry_59 rfl (lv_at hl 0 rfl) ?_
        refine sv_getr (C := "StoryMachineModel") (T := T_Mo) (N := 51) hx hb hts in_Mo hown hK hI 0 kM_0 rfl 48 (by decide) (hts _ mw_1111) rfl d_Mo_entry_60 ?_
        refine sn_iconst hx hb d_Mo_entry_63 (by decide) (fun z285 hz285 => ?_)
        refine sv_ialdr hx hb hK hI 19 kM_19 (by omega) (by omega) d_Mo_entry_64 (fun z286 hz286a hz286b => ?_)
        refine sn_iaddT hx hb d_Mo_entry_65 (fun z287 hz287a hz287b => ?_)
        refine sn_bipush hx hb d_Mo_entry_66 (by decide) (fun z288 hz288 => ?_)
        refine sn_imulT hx hb d_Mo_entry_68 (fun z289 hz289a hz289b => ?_)
        refine lv_aload_n hx hb d_Mo_entry_69 rfl (lv_at hl 0 rfl) ?_
        refine sv_getr (C := "StoryMachineModel") (T := T_Mo) (N := 51) hx hb hts in_Mo hown hK hI 0 kM_0 rfl 48 (by decide) (hts _ mw_1111) rfl d_Mo_entry_70 ?_
        refine sn_iconst hx hb d_Mo_entry_73 (by decide) (fun z290 hz290 => ?_)
        refine sv_ialdr hx hb hK hI 19 kM_19 (by omega) (by omega) d_Mo_entry_74 (fun z291 hz291a hz291b => ?_)
        refine sn_iaddT hx hb d_Mo_entry_75 (fun z292 hz292a hz292b => ?_)
        refine lv_istore_n (lv' := [(3, .int z292), (0, .ref (a 0)), (1, .int x1), (2, .int x2)]) hx hb d_Mo_entry_76 rfl hl (by decide) rfl (fun ls hl => ?_)
        refine lv_aload_n hx hb d_Mo_entry_77 rfl (lv_at hl 1 rfl) ?_
        refine sv_getr (C := "StoryMachineModel") (T := T_Mo) (N := 51) hx hb hts in_Mo hown hK hI 0 kM_0 rfl 48 (by decide) (hts _ mw_1111) rfl d_Mo_entry_78 ?_
        refine sn_iconst hx hb d_Mo_entry_81 (by decide) (fun z293 hz293 => ?_)
        refine sv_ialdr hx hb hK hI 19 kM_19 (by omega) (by omega) d_Mo_entry_82 (fun z294 hz294a hz294b => ?_)
        refine sn_bipush hx hb d_Mo_entry_83 (by decide) (fun z295 hz295 => ?_)
        refine sn_imulT hx hb d_Mo_entry_85 (fun z296 hz296a hz296b => ?_)
        refine lv_aload_n hx hb d_Mo_entry_86 rfl (lv_at hl 1 rfl) ?_
        refine sv_getr (C := "StoryMachineModel") (T := T_Mo) (N := 51) hx hb hts in_Mo hown hK hI 0 kM_0 rfl 48 (by decide) (hts _ mw_1111) rfl d_Mo_entry_87 ?_
        refine sn_iconst hx hb d_Mo_entry_90 (by decide) (fun z297 hz297 => ?_)
        refine sv_ialdr hx hb hK hI 19 kM_19 (by omega) (by omega) d_Mo_entry_91 (fun z298 hz298a hz298b => ?_)
        refine sn_iaddT hx hb d_Mo_entry_92 (fun z299 hz299a hz299b => ?_)
        refine sn_bipush hx hb d_Mo_entry_93 (by decide) (fun z300 hz300 => ?_)
        refine sn_imulT hx hb d_Mo_entry_95 (fun z301 hz301a hz301b => ?_)
        refine lv_aload_n hx hb d_Mo_entry_96 rfl (lv_at hl 1 rfl) ?_
        refine sv_getr (C := "StoryMachineModel") (T := T_Mo) (N := 51) hx hb hts in_Mo hown hK hI 0 kM_0 rfl 48 (by decide) (hts _ mw_1111) rfl d_Mo_entry_97 ?_
        refine sn_iconst hx hb d_Mo_entry_100 (by decide) (fun z302 hz302 => ?_)
        refine sv_ialdr hx hb hK hI 19 kM_19 (by omega) (by omega) d_Mo_entry_101 (fun z303 hz303a hz303b => ?_)
        refine sn_iaddT hx hb d_Mo_entry_102 (fun z304 hz304a hz304b => ?_)
        refine sn_ldc (n := 32768) hx hb hown (hts _ mw_1402) d_Mo_entry_103 (by decide) (fun z305 hz305 => ?_)
        refine sn_iaddT hx hb d_Mo_entry_105 (fun z306 hz306a hz306b => ?_)
        refine lv_istore (lv' := [(4, .int z306), (3, .int z292), (0, .ref (a 0)), (1, .int x1), (2, .int x2)]) hx hb d_Mo_entry_106 hl (by decide) rfl (fun ls hl => ?_)
        refine lv_aload_n hx hb d_Mo_entry_108 rfl (lv_at hl 2 rfl) ?_
        refine sn_bipush hx hb d_Mo_entry_109 (by decide) (fun z307 hz307 => ?_)
        refine tz_call (A1 := ga (adM a) H.size) (tz_runV (C := "StoryMachineModel") (As := [.int z307]) (rest := []) ⟨hx, hb, hml, hown, hts⟩ (c_Mo_wordAt l hfl dC dI cI cJ a H.size th tr dp zi co sh t28z_lt ts mf z307 hok) (tx_cb (n := 1) hts rfl rfl ⟨Nat.le_of_ble_eq_true rfl, Nat.le_of_ble_eq_true rfl⟩ (tx_code.of (hts _ mw_1252)) (hts _ mw_12) (by decide +kernel) (hts _ mw_1249)) (hts _ mw_1251) (hts _ ms_Mo_wordAt) ⟨tz_blind, sv_recv (q0 := 0) hts in_Mo hK hI kM_0 rfl, fun U hU hW => ⟨rfl, by rw [hU], by rw [hU]; exact hI.1, va_K.moved hW.alike hK, hst _ _ hI.2 U hU hW⟩⟩ rfl rfl hl.1 rfl (lv_room (Nat.le_of_ble_eq_true rfl)) d_Mo_entry_111 ⟨Nat.le_of_ble_eq_true rfl, Nat.le_of_ble_eq_true rfl⟩) hI.2 (fun q _ h => ga_sub hAC hA0 hI.2 q h) (ga_sub hAC hA0 hI.2) (fun v t H1 locs1 ht hWt hpost _ _ hS => ?_) (fun x t H1 locs1 ht hWt hpost _ _ hS => (hpost.2 x rfl).elim)
        rcases hpost.1 _ rfl with ⟨z308, t_tr309, hv, c310, c310_0, c310_1, c310_2, hI1⟩ | ⟨z311, hv, c312, c312_0, c312_1, c312_2, c312_3, c312_4, hI1⟩
        · cases hv
          have hI : sI (dC, dI) vcl cI cJ (gsM a th t_tr309 dp zi co sh t28z_lt ts mf) A s.heap H1 locs1 := ⟨by rw [← ht]; exact hI1, hS⟩
          obtain ⟨-, ⟨o313, o314⟩, -, -, -, -, -, -, -⟩ := id c310
          clear hpost hI1 hS ht hWt
          revert hI; generalize H1 = H; generalize locs1 = locs; intro hI
          refine lv_istore (lv' := [(5, .int z308), (4, .int z306), (3, .int z292), (0, .ref (a 0)), (1, .int x1), (2, .int x2)]) hx hb d_Mo_entry_114 hl (by decide) rfl (fun ls hl => ?_)
          refine lv_iload hx hb d_Mo_entry_116 (lv_at hl 0 rfl) ?_
          refine sn_iconst hx hb d_Mo_entry_118 (by decide) (fun z315 hz315 => ?_)
          refine sn_iadd hx hb d_Mo_entry_119 (by omega) (by omega) (fun z316 hz316 => ?_)
          refine lv_aload_n hx hb d_Mo_entry_120 rfl (lv_at hl 3 rfl) ?_
          refine lv_iload hx hb d_Mo_entry_121 (lv_at hl 0 rfl) ?_
          refine tz_call (A1 := ga (adM a) H.size) (tz_runV (C := "StoryMachineModel") (As := [.int z308]) (rest := [.int z316]) ⟨hx, hb, hml, hown, hts⟩ (c_Mo_byteAt l hfl dC dI cI cJ a H.size th t_tr309 dp zi co sh t28z_lt ts mf z308 c310) (tx_cb (n := 1) hts rfl rfl ⟨Nat.le_of_ble_eq_true rfl, Nat.le_of_ble_eq_true rfl⟩ (tx_code.of (hts _ mw_1236)) (hts _ mw_12) (by decide +kernel) (hts _ mw_1233)) (hts _ mw_1235) (hts _ ms_Mo_byteAt) ⟨tz_blind, sv_recv (q0 := 0) hts in_Mo hK hI kM_0 rfl, fun U hU hW => ⟨rfl, by rw [hU], by rw [hU]; exact hI.1, va_K.moved hW.alike hK, hst _ _ hI.2 U hU hW⟩⟩ rfl rfl hl.1 rfl (lv_room (Nat.le_of_ble_eq_true rfl)) d_Mo_entry_123 ⟨Nat.le_of_ble_eq_true rfl, Nat.le_of_ble_eq_true rfl⟩) hI.2 (fun q _ h => ga_sub hAC hA0 hI.2 q h) (ga_sub hAC hA0 hI.2) (fun v t H1 locs1 ht hWt hpost _ _ hS => ?_) (fun x t H1 locs1 ht hWt hpost _ _ hS => (hpost.2 x rfl).elim)
          rcases hpost.1 _ rfl with ⟨z317, t_tr318, hv, c319, c319_0, c319_1, c319_2, hI1⟩ | ⟨z320, hv, c321, c321_0, c321_1, c321_2, c321_3, c321_4, hI1⟩
          · cases hv
            have hI : sI (dC, dI) vcl cI cJ (gsM a th t_tr318 dp zi co sh t28z_lt ts mf) A s.heap H1 locs1 := ⟨by rw [← ht]; exact hI1, hS⟩
            obtain ⟨-, ⟨o322, o323⟩, -, -, -, -, -, -, -⟩ := id c319
            clear hpost hI1 hS ht hWt
            revert hI; generalize H1 = H; generalize locs1 = locs; intro hI
            refine sn_iadd hx hb d_Mo_entry_126 (by omega) (by omega) (fun z324 hz324 => ?_)
            refine lv_istore (lv' := [(6, .int z324), (5, .int z308), (4, .int z306), (3, .int z292), (0, .ref (a 0)), (1, .int x1), (2, .int x2)]) hx hb d_Mo_entry_127 hl (by decide) rfl (fun ls hl => ?_)
            refine lv_aload_n hx hb d_Mo_entry_129 rfl (lv_at hl 4 rfl) ?_
            refine lv_iload hx hb d_Mo_entry_130 (lv_at hl 0 rfl) ?_
            refine tz_call (A1 := ga (adM a) H.size) (tz_runV (C := "StoryMachineModel") (As := [.int z324]) (rest := []) ⟨hx, hb, hml, hown, hts⟩ (c_Mo_byteAt l hfl dC dI cI cJ a H.size th t_tr318 dp zi co sh t28z_lt ts mf z324 c319) (tx_cb (n := 1) hts rfl rfl ⟨Nat.le_of_ble_eq_true rfl, Nat.le_of_ble_eq_true rfl⟩ (tx_code.of (hts _ mw_1236)) (hts _ mw_12) (by decide +kernel) (hts _ mw_1233)) (hts _ mw_1235) (hts _ ms_Mo_byteAt) ⟨tz_blind, sv_recv (q0 := 0) hts in_Mo hK hI kM_0 rfl, fun U hU hW => ⟨rfl, by rw [hU], by rw [hU]; exact hI.1, va_K.moved hW.alike hK, hst _ _ hI.2 U hU hW⟩⟩ rfl rfl hl.1 rfl (lv_room (Nat.le_of_ble_eq_true rfl)) d_Mo_entry_132 ⟨Nat.le_of_ble_eq_true rfl, Nat.le_of_ble_eq_true rfl⟩) hI.2 (fun q _ h => ga_sub hAC hA0 hI.2 q h) (ga_sub hAC hA0 hI.2) (fun v t H1 locs1 ht hWt hpost _ _ hS => ?_) (fun x t H1 locs1 ht hWt hpost _ _ hS => (hpost.2 x rfl).elim)
            rcases hpost.1 _ rfl with ⟨z325, t_tr326, hv, c327, c327_0, c327_1, c327_2, hI1⟩ | ⟨z328, hv, c329, c329_0, c329_1, c329_2, c329_3, c329_4, hI1⟩
            · cases hv
              have hI : sI (dC, dI) vcl cI cJ (gsM a th t_tr326 dp zi co sh t28z_lt ts mf) A s.heap H1 locs1 := ⟨by rw [← ht]; exact hI1, hS⟩
              obtain ⟨-, ⟨o330, o331⟩, -, -, -, -, -, -, -⟩ := id c327
              clear hpost hI1 hS ht hWt
              revert hI; generalize H1 = H; generalize locs1 = locs; intro hI
              refine lv_istore (lv' := [(7, .int z325), (6, .int z324), (5, .int z308), (4, .int z306), (3, .int z292), (0, .ref (a 0)), (1, .int x1), (2, .int x2)]) hx hb d_Mo_entry_135 hl (by decide) rfl (fun ls hl => ?_)
              refine lv_aload_n hx hb d_Mo_entry_137 rfl (lv_at hl 5 rfl) ?_
              refine lv_iload hx hb d_Mo_entry_138 (lv_at hl 0 rfl) ?_
              refine sn_iconst hx hb d_Mo_entry_140 (by decide) (fun z332 hz332 => ?_)
              refine sn_icmp_le (tgt := 148) hx hb d_Mo_entry_141 (by decide) (fun b333 => ?_) (fun b333 => ?_)
              · refine sn_iconst hx hb d_Mo_entry_148 (by decide) (fun z334 hz334 => ?_)
                refine sn_iconst hx hb d_Mo_entry_149 (by decide) (fun z335 hz335 => ?_)
                refine tz_call (A1 := ga (adM a) H.size) (tz_runV (C := "StoryMachineModel") (As := [.int z334, .int z335]) (rest := []) ⟨hx, hb, hml, hown, hts⟩ (c_Mo_good l hfl dC dI cI cJ a H.size th t_tr326 dp zi co sh t28z_lt ts mf z334 z335 c327 (by omega) (by omega) (by omega) (by omega)) (tx_cb (n := 2) hts rfl rfl ⟨Nat.le_of_ble_eq_true rfl, Nat.le_of_ble_eq_true rfl⟩ (tx_code.of (hts _ mw_1240)) (hts _ mw_12) (by decide +kernel) (hts _ mw_1237)) (hts _ mw_1239) (hts _ ms_Mo_good) ⟨tz_blind, sv_recv (q0 := 0) hts in_Mo hK hI kM_0 rfl, fun U hU hW => ⟨rfl, by rw [hU], by rw [hU]; exact hI.1, va_K.moved hW.alike hK, hst _ _ hI.2 U hU hW⟩⟩ rfl rfl hl.1 rfl (lv_room (Nat.le_of_ble_eq_true rfl)) d_Mo_entry_150 ⟨Nat.le_of_ble_eq_true rfl, Nat.le_of_ble_eq_true rfl⟩) hI.2 (fun q _ h => ga_sub hAC hA0 hI.2 q h) (ga_sub hAC hA0 hI.2) (fun v t H1 locs1 ht hWt hpost _ _ hS => ?_) (fun x t H1 locs1 ht hWt hpost _ _ hS => (hpost.2 x rfl).elim)
                rcases hpost.1 _ rfl with ⟨z336, t_tr337, hv, c338, c338_0, c338_1, c338_2, c338_3, hI1⟩ | ⟨z339, hv, c340, c340_0, c340_1, c340_2, c340_3, hI1⟩
                · cases hv
                  have hI : sI (dC, dI) vcl cI cJ (gsM a th t_tr337 dp zi co sh t28z_lt ts mf) A s.heap H1 locs1 := ⟨by rw [← ht]; exact hI1, hS⟩
                  obtain ⟨-, ⟨o341, o342⟩, -, -, -, -, -, -, -⟩ := id c338
                  clear hpost hI1 hS ht hWt
                  revert hI; generalize H1 = H; generalize locs1 = locs; intro hI
                  refine sn_if_ne (tgt := 158) hx hb d_Mo_entry_153 (by decide) (fun b343 => ?_) (fun b343 => ?_)
                  · omega
                  · refine sn_iconst hx hb d_Mo_entry_156 (by decide) (fun z344 hz344 => ?_)
                    subst hZ
                    exact tz_ret (W.iret (v := z344) hx hb hr (fun t ht hW => ⟨⟨fun v9 hv9 => by cases hv9; exact (Or.inl ⟨z344, t_tr337, t28z_lt, rfl, c338, by omega, by omega, by omega, by rw [ht]; exact hI.1⟩), fun x9 hx9 => (by cases hx9)⟩, hI.2.F ht⟩) hI.2.2.2 d_Mo_entry_157)
                · omega
              · omega
            · omega
          · omega
        · cases hv
          have hI : sI (dC, dI) vcl cI cJ (gsM a th tr dp zi co sh t28z_lt ts mf) A s.heap H1 locs1 := ⟨by rw [← ht]; exact hI1, hS⟩
          clear hpost hI1 hS ht hWt
          revert hI; generalize H1 = H; generalize locs1 = locs; intro hI
          refine lv_istore (lv' := [(5, .int z311), (4, .int z306), (3, .int z292), (0, .ref (a 0)), (1, .int x1), (2, .int x2)]) hx hb d_Mo_entry_114 hl (by decide) rfl (fun ls hl => ?_)
          refine lv_iload hx hb d_Mo_entry_116 (lv_at hl 0 rfl) ?_
          refine sn_iconst hx hb d_Mo_entry_118 (by decide) (fun z345 hz345 => ?_)
          refine sn_iadd hx hb d_Mo_entry_119 (by omega) (by omega) (fun z346 hz346 => ?_)
          refine lv_aload_n hx hb d_Mo_entry_120 rfl (lv_at hl 3 rfl) ?_
          refine lv_iload hx hb d_Mo_entry_121 (lv_at hl 0 rfl) ?_
          refine tz_call (A1 := ga (adM a) H.size) (tz_runV (C := "StoryMachineModel") (As := [.int z311]) (rest := [.int z346]) ⟨hx, hb, hml, hown, hts⟩ (c_Mo_byteAt l hfl dC dI cI cJ a H.size th tr dp zi co sh t28z_lt ts mf z311 c312) (tx_cb (n := 1) hts rfl rfl ⟨Nat.le_of_ble_eq_true rfl, Nat.le_of_ble_eq_true rfl⟩ (tx_code.of (hts _ mw_1236)) (hts _ mw_12) (by decide +kernel) (hts _ mw_1233)) (hts _ mw_1235) (hts _ ms_Mo_byteAt) ⟨tz_blind, sv_recv (q0 := 0) hts in_Mo hK hI kM_0 rfl, fun U hU hW => ⟨rfl, by rw [hU], by rw [hU]; exact hI.1, va_K.moved hW.alike hK, hst _ _ hI.2 U hU hW⟩⟩ rfl rfl hl.1 rfl (lv_room (Nat.le_of_ble_eq_true rfl)) d_Mo_entry_123 ⟨Nat.le_of_ble_eq_true rfl, Nat.le_of_ble_eq_true rfl⟩) hI.2 (fun q _ h => ga_sub hAC hA0 hI.2 q h) (ga_sub hAC hA0 hI.2) (fun v t H1 locs1 ht hWt hpost _ _ hS => ?_) (fun x t H1 locs1 ht hWt hpost _ _ hS => (hpost.2 x rfl).elim)
          rcases hpost.1 _ rfl with ⟨z347, t_tr348, hv, c349, c349_0, c349_1, c349_2, hI1⟩ | ⟨z350, hv, c351, c351_0, c351_1, c351_2, c351_3, c351_4, hI1⟩
          · cases hv
            have hI : sI (dC, dI) vcl cI cJ (gsM a th t_tr348 dp zi co sh t28z_lt ts mf) A s.heap H1 locs1 := ⟨by rw [← ht]; exact hI1, hS⟩
            obtain ⟨-, ⟨o352, o353⟩, -, -, -, -, -, -, -⟩ := id c349
            clear hpost hI1 hS ht hWt
            revert hI; generalize H1 = H; generalize locs1 = locs; intro hI
            refine sn_iadd hx hb d_Mo_entry_126 (by omega) (by omega) (fun z354 hz354 => ?_)
            refine lv_istore (lv' := [(6, .int z354), (5, .int z311), (4, .int z306), (3, .int z292), (0, .ref (a 0)), (1, .int x1), (2, .int x2)]) hx hb d_Mo_entry_127 hl (by decide) rfl (fun ls hl => ?_)
            refine lv_aload_n hx hb d_Mo_entry_129 rfl (lv_at hl 4 rfl) ?_
            refine lv_iload hx hb d_Mo_entry_130 (lv_at hl 0 rfl) ?_
            refine tz_call (A1 := ga (adM a) H.size) (tz_runV (C := "StoryMachineModel") (As := [.int z354]) (rest := []) ⟨hx, hb, hml, hown, hts⟩ (c_Mo_byteAt l hfl dC dI cI cJ a H.size th t_tr348 dp zi co sh t28z_lt ts mf z354 c349) (tx_cb (n := 1) hts rfl rfl ⟨Nat.le_of_ble_eq_true rfl, Nat.le_of_ble_eq_true rfl⟩ (tx_code.of (hts _ mw_1236)) (hts _ mw_12) (by decide +kernel) (hts _ mw_1233)) (hts _ mw_1235) (hts _ ms_Mo_byteAt) ⟨tz_blind, sv_recv (q0 := 0) hts in_Mo hK hI kM_0 rfl, fun U hU hW => ⟨rfl, by rw [hU], by rw [hU]; exact hI.1, va_K.moved hW.alike hK, hst _ _ hI.2 U hU hW⟩⟩ rfl rfl hl.1 rfl (lv_room (Nat.le_of_ble_eq_true rfl)) d_Mo_entry_132 ⟨Nat.le_of_ble_eq_true rfl, Nat.le_of_ble_eq_true rfl⟩) hI.2 (fun q _ h => ga_sub hAC hA0 hI.2 q h) (ga_sub hAC hA0 hI.2) (fun v t H1 locs1 ht hWt hpost _ _ hS => ?_) (fun x t H1 locs1 ht hWt hpost _ _ hS => (hpost.2 x rfl).elim)
            rcases hpost.1 _ rfl with ⟨z355, t_tr356, hv, c357, c357_0, c357_1, c357_2, hI1⟩ | ⟨z358, hv, c359, c359_0, c359_1, c359_2, c359_3, c359_4, hI1⟩
            · cases hv
              have hI : sI (dC, dI) vcl cI cJ (gsM a th t_tr356 dp zi co sh t28z_lt ts mf) A s.heap H1 locs1 := ⟨by rw [← ht]; exact hI1, hS⟩
              obtain ⟨-, ⟨o360, o361⟩, -, -, -, -, -, -, -⟩ := id c357
              clear hpost hI1 hS ht hWt
              revert hI; generalize H1 = H; generalize locs1 = locs; intro hI
              refine lv_istore (lv' := [(7, .int z355), (6, .int z354), (5, .int z311), (4, .int z306), (3, .int z292), (0, .ref (a 0)), (1, .int x1), (2, .int x2)]) hx hb d_Mo_entry_135 hl (by decide) rfl (fun ls hl => ?_)
              refine lv_aload_n hx hb d_Mo_entry_137 rfl (lv_at hl 5 rfl) ?_
              refine lv_iload hx hb d_Mo_entry_138 (lv_at hl 0 rfl) ?_
              refine sn_iconst hx hb d_Mo_entry_140 (by decide) (fun z362 hz362 => ?_)
              refine sn_icmp_le (tgt := 148) hx hb d_Mo_entry_141 (by decide) (fun b363 => ?_) (fun b363 => ?_)
              · refine sn_iconst hx hb d_Mo_entry_148 (by decide) (fun z364 hz364 => ?_)
                refine sn_iconst hx hb d_Mo_entry_149 (by decide) (fun z365 hz365 => ?_)
                refine tz_call (A1 := ga (adM a) H.size) (tz_runV (C := "StoryMachineModel") (As := [.int z364, .int z365]) (rest := []) ⟨hx, hb, hml, hown, hts⟩ (c_Mo_good l hfl dC dI cI cJ a H.size th t_tr356 dp zi co sh t28z_lt ts mf z364 z365 c357 (by omega) (by omega) (by omega) (by omega)) (tx_cb (n := 2) hts rfl rfl ⟨Nat.le_of_ble_eq_true rfl, Nat.le_of_ble_eq_true rfl⟩ (tx_code.of (hts _ mw_1240)) (hts _ mw_12) (by decide +kernel) (hts _ mw_1237)) (hts _ mw_1239) (hts _ ms_Mo_good) ⟨tz_blind, sv_recv (q0 := 0) hts in_Mo hK hI kM_0 rfl, fun U hU hW => ⟨rfl, by rw [hU], by rw [hU]; exact hI.1, va_K.moved hW.alike hK, hst _ _ hI.2 U hU hW⟩⟩ rfl rfl hl.1 rfl (lv_room (Nat.le_of_ble_eq_true rfl)) d_Mo_entry_150 ⟨Nat.le_of_ble_eq_true rfl, Nat.le_of_ble_eq_true rfl⟩) hI.2 (fun q _ h => ga_sub hAC hA0 hI.2 q h) (ga_sub hAC hA0 hI.2) (fun v t H1 locs1 ht hWt hpost _ _ hS => ?_) (fun x t H1 locs1 ht hWt hpost _ _ hS => (hpost.2 x rfl).elim)
                rcases hpost.1 _ rfl with ⟨z366, t_tr367, hv, c368, c368_0, c368_1, c368_2, c368_3, hI1⟩ | ⟨z369, hv, c370, c370_0, c370_1, c370_2, c370_3, hI1⟩
                · cases hv
                  have hI : sI (dC, dI) vcl cI cJ (gsM a th t_tr367 dp zi co sh t28z_lt ts mf) A s.heap H1 locs1 := ⟨by rw [← ht]; exact hI1, hS⟩
                  obtain ⟨-, ⟨o371, o372⟩, -, -, -, -, -, -, -⟩ := id c368
                  clear hpost hI1 hS ht hWt
                  revert hI; generalize H1 = H; generalize locs1 = locs; intro hI
                  refine sn_if_ne (tgt := 158) hx hb d_Mo_entry_153 (by decide) (fun b373 => ?_) (fun b373 => ?_)
                  · omega
                  · refine sn_iconst hx hb d_Mo_entry_156 (by decide) (fun z374 hz374 => ?_)
                    subst hZ
                    exact tz_ret (W.iret (v := z374) hx hb hr (fun t ht hW => ⟨⟨fun v9 hv9 => by cases hv9; exact (Or.inl ⟨z374, t_tr367, t28z_lt, rfl, c368, by omega, by omega, by omega, by rw [ht]; exact hI.1⟩), fun x9 hx9 => (by cases hx9)⟩, hI.2.F ht⟩) hI.2.2.2 d_Mo_entry_157)
                · omega
              · omega
            · omega
          · cases hv
            have hI : sI (dC, dI) vcl cI cJ (gsM a th tr dp zi co sh t28z_lt ts mf) A s.heap H1 locs1 := ⟨by rw [← ht]; exact hI1, hS⟩
            clear hpost hI1 hS ht hWt
            revert hI; generalize H1 = H; generalize locs1 = locs; intro hI
            refine sn_iadd hx hb d_Mo_entry_126 (by omega) (by omega) (fun z375 hz375 => ?_)
            refine lv_istore (lv' := [(6, .int z375), (5, .int z311), (4, .int z306), (3, .int z292), (0, .ref (a 0)), (1, .int x1), (2, .int x2)]) hx hb d_Mo_entry_127 hl (by decide) rfl (fun ls hl => ?_)
            refine lv_aload_n hx hb d_Mo_entry_129 rfl (lv_at hl 4 rfl) ?_
            refine lv_iload hx hb d_Mo_entry_130 (lv_at hl 0 rfl) ?_
            refine tz_call (A1 := ga (adM a) H.size) (tz_runV (C := "StoryMachineModel") (As := [.int z375]) (rest := []) ⟨hx, hb, hml, hown, hts⟩ (c_Mo_byteAt l hfl dC dI cI cJ a H.size th tr dp zi co sh t28z_lt ts mf z375 c351) (tx_cb (n := 1) hts rfl rfl ⟨Nat.le_of_ble_eq_true rfl, Nat.le_of_ble_eq_true rfl⟩ (tx_code.of (hts _ mw_1236)) (hts _ mw_12) (by decide +kernel) (hts _ mw_1233)) (hts _ mw_1235) (hts _ ms_Mo_byteAt) ⟨tz_blind, sv_recv (q0 := 0) hts in_Mo hK hI kM_0 rfl, fun U hU hW => ⟨rfl, by rw [hU], by rw [hU]; exact hI.1, va_K.moved hW.alike hK, hst _ _ hI.2 U hU hW⟩⟩ rfl rfl hl.1 rfl (lv_room (Nat.le_of_ble_eq_true rfl)) d_Mo_entry_132 ⟨Nat.le_of_ble_eq_true rfl, Nat.le_of_ble_eq_true rfl⟩) hI.2 (fun q _ h => ga_sub hAC hA0 hI.2 q h) (ga_sub hAC hA0 hI.2) (fun v t H1 locs1 ht hWt hpost _ _ hS => ?_) (fun x t H1 locs1 ht hWt hpost _ _ hS => (hpost.2 x rfl).elim)
            rcases hpost.1 _ rfl with ⟨z376, t_tr377, hv, c378, c378_0, c378_1, c378_2, hI1⟩ | ⟨z379, hv, c380, c380_0, c380_1, c380_2, c380_3, c380_4, hI1⟩
            · cases hv
              have hI : sI (dC, dI) vcl cI cJ (gsM a th t_tr377 dp zi co sh t28z_lt ts mf) A s.heap H1 locs1 := ⟨by rw [← ht]; exact hI1, hS⟩
              obtain ⟨-, ⟨o381, o382⟩, -, -, -, -, -, -, -⟩ := id c378
              clear hpost hI1 hS ht hWt
              revert hI; generalize H1 = H; generalize locs1 = locs; intro hI
              refine lv_istore (lv' := [(7, .int z376), (6, .int z375), (5, .int z311), (4, .int z306), (3, .int z292), (0, .ref (a 0)), (1, .int x1), (2, .int x2)]) hx hb d_Mo_entry_135 hl (by decide) rfl (fun ls hl => ?_)
              refine lv_aload_n hx hb d_Mo_entry_137 rfl (lv_at hl 5 rfl) ?_
              refine lv_iload hx hb d_Mo_entry_138 (lv_at hl 0 rfl) ?_
              refine sn_iconst hx hb d_Mo_entry_140 (by decide) (fun z383 hz383 => ?_)
              refine sn_icmp_le (tgt := 148) hx hb d_Mo_entry_141 (by decide) (fun b384 => ?_) (fun b384 => ?_)
              · refine sn_iconst hx hb d_Mo_entry_148 (by decide) (fun z385 hz385 => ?_)
                refine sn_iconst hx hb d_Mo_entry_149 (by decide) (fun z386 hz386 => ?_)
                refine tz_call (A1 := ga (adM a) H.size) (tz_runV (C := "StoryMachineModel") (As := [.int z385, .int z386]) (rest := []) ⟨hx, hb, hml, hown, hts⟩ (c_Mo_good l hfl dC dI cI cJ a H.size th t_tr377 dp zi co sh t28z_lt ts mf z385 z386 c378 (by omega) (by omega) (by omega) (by omega)) (tx_cb (n := 2) hts rfl rfl ⟨Nat.le_of_ble_eq_true rfl, Nat.le_of_ble_eq_true rfl⟩ (tx_code.of (hts _ mw_1240)) (hts _ mw_12) (by decide +kernel) (hts _ mw_1237)) (hts _ mw_1239) (hts _ ms_Mo_good) ⟨tz_blind, sv_recv (q0 := 0) hts in_Mo hK hI kM_0 rfl, fun U hU hW => ⟨rfl, by rw [hU], by rw [hU]; exact hI.1, va_K.moved hW.alike hK, hst _ _ hI.2 U hU hW⟩⟩ rfl rfl hl.1 rfl (lv_room (Nat.le_of_ble_eq_true rfl)) d_Mo_entry_150 ⟨Nat.le_of_ble_eq_true rfl, Nat.le_of_ble_eq_true rfl⟩) hI.2 (fun q _ h => ga_sub hAC hA0 hI.2 q h) (ga_sub hAC hA0 hI.2) (fun v t H1 locs1 ht hWt hpost _ _ hS => ?_) (fun x t H1 locs1 ht hWt hpost _ _ hS => (hpost.2 x rfl).elim)
                rcases hpost.1 _ rfl with ⟨z387, t_tr388, hv, c389, c389_0, c389_1, c389_2, c389_3, hI1⟩ | ⟨z390, hv, c391, c391_0, c391_1, c391_2, c391_3, hI1⟩
                · cases hv
                  have hI : sI (dC, dI) vcl cI cJ (gsM a th t_tr388 dp zi co sh t28z_lt ts mf) A s.heap H1 locs1 := ⟨by rw [← ht]; exact hI1, hS⟩
                  obtain ⟨-, ⟨o392, o393⟩, -, -, -, -, -, -, -⟩ := id c389
                  clear hpost hI1 hS ht hWt
                  revert hI; generalize H1 = H; generalize locs1 = locs; intro hI
                  refine sn_if_ne (tgt := 158) hx hb d_Mo_entry_153 (by decide) (fun b394 => ?_) (fun b394 => ?_)
                  · omega
                  · refine sn_iconst hx hb d_Mo_entry_156 (by decide) (fun z395 hz395 => ?_)
                    subst hZ
                    exact tz_ret (W.iret (v := z395) hx hb hr (fun t ht hW => ⟨⟨fun v9 hv9 => by cases hv9; exact (Or.inl ⟨z395, t_tr388, t28z_lt, rfl, c389, by omega, by omega, by omega, by rw [ht]; exact hI.1⟩), fun x9 hx9 => (by cases hx9)⟩, hI.2.F ht⟩) hI.2.2.2 d_Mo_entry_157)
                · omega
              · omega
            · cases hv
              have hI : sI (dC, dI) vcl cI cJ (gsM a th tr dp zi co sh t28z_lt ts mf) A s.heap H1 locs1 := ⟨by rw [← ht]; exact hI1, hS⟩
              clear hpost hI1 hS ht hWt
              revert hI; generalize H1 = H; generalize locs1 = locs; intro hI
              refine lv_istore (lv' := [(7, .int z379), (6, .int z375), (5, .int z311), (4, .int z306), (3, .int z292), (0, .ref (a 0)), (1, .int x1), (2, .int x2)]) hx hb d_Mo_entry_135 hl (by decide) rfl (fun ls hl => ?_)
              refine lv_aload_n hx hb d_Mo_entry_137 rfl (lv_at hl 5 rfl) ?_
              refine lv_iload hx hb d_Mo_entry_138 (lv_at hl 0 rfl) ?_
              refine sn_iconst hx hb d_Mo_entry_140 (by decide) (fun z396 hz396 => ?_)
              refine sn_icmp_le (tgt := 148) hx hb d_Mo_entry_141 (by decide) (fun b397 => ?_) (fun b397 => ?_)
              · refine sn_iconst hx hb d_Mo_entry_148 (by decide) (fun z398 hz398 => ?_)
                refine sn_iconst hx hb d_Mo_entry_149 (by decide) (fun z399 hz399 => ?_)
                refine tz_call (A1 := ga (adM a) H.size) (tz_runV (C := "StoryMachineModel") (As := [.int z398, .int z399]) (rest := []) ⟨hx, hb, hml, hown, hts⟩ (c_Mo_good l hfl dC dI cI cJ a H.size th tr dp zi co sh t28z_lt ts mf z398 z399 c380 (by omega) (by omega) (by omega) (by omega)) (tx_cb (n := 2) hts rfl rfl ⟨Nat.le_of_ble_eq_true rfl, Nat.le_of_ble_eq_true rfl⟩ (tx_code.of (hts _ mw_1240)) (hts _ mw_12) (by decide +kernel) (hts _ mw_1237)) (hts _ mw_1239) (hts _ ms_Mo_good) ⟨tz_blind, sv_recv (q0 := 0) hts in_Mo hK hI kM_0 rfl, fun U hU hW => ⟨rfl, by rw [hU], by rw [hU]; exact hI.1, va_K.moved hW.alike hK, hst _ _ hI.2 U hU hW⟩⟩ rfl rfl hl.1 rfl (lv_room (Nat.le_of_ble_eq_true rfl)) d_Mo_entry_150 ⟨Nat.le_of_ble_eq_true rfl, Nat.le_of_ble_eq_true rfl⟩) hI.2 (fun q _ h => ga_sub hAC hA0 hI.2 q h) (ga_sub hAC hA0 hI.2) (fun v t H1 locs1 ht hWt hpost _ _ hS => ?_) (fun x t H1 locs1 ht hWt hpost _ _ hS => (hpost.2 x rfl).elim)
                rcases hpost.1 _ rfl with ⟨z400, t_tr401, hv, c402, c402_0, c402_1, c402_2, c402_3, hI1⟩ | ⟨z403, hv, c404, c404_0, c404_1, c404_2, c404_3, hI1⟩
                · cases hv
                  have hI : sI (dC, dI) vcl cI cJ (gsM a th t_tr401 dp zi co sh t28z_lt ts mf) A s.heap H1 locs1 := ⟨by rw [← ht]; exact hI1, hS⟩
                  obtain ⟨-, ⟨o405, o406⟩, -, -, -, -, -, -, -⟩ := id c402
                  clear hpost hI1 hS ht hWt
                  revert hI; generalize H1 = H; generalize locs1 = locs; intro hI
                  refine sn_if_ne (tgt := 158) hx hb d_Mo_entry_153 (by decide) (fun b407 => ?_) (fun b407 => ?_)
                  · omega
                  · refine sn_iconst hx hb d_Mo_entry_156 (by decide) (fun z408 hz408 => ?_)
                    subst hZ
                    exact tz_ret (W.iret (v := z408) hx hb hr (fun t ht hW => ⟨⟨fun v9 hv9 => by cases hv9; exact (Or.inl ⟨z408, t_tr401, t28z_lt, rfl, c402, by omega, by omega, by omega, by rw [ht]; exact hI.1⟩), fun x9 hx9 => (by cases hx9)⟩, hI.2.F ht⟩) hI.2.2.2 d_Mo_entry_157)
                · omega
              · refine sn_iconst hx hb d_Mo_entry_144 (by decide) (fun z409 hz409 => ?_)
                refine lv_goto (tgt := 149) hx hb d_Mo_entry_145 (by decide) ?_
                refine sn_iconst hx hb d_Mo_entry_149 (by decide) (fun z410 hz410 => ?_)
                refine tz_call (A1 := ga (adM a) H.size) (tz_runV (C := "StoryMachineModel") (As := [.int z409, .int z410]) (rest := []) ⟨hx, hb, hml, hown, hts⟩ (c_Mo_good l hfl dC dI cI cJ a H.size th tr dp zi co sh t28z_lt ts mf z409 z410 c380 (by omega) (by omega) (by omega) (by omega)) (tx_cb (n := 2) hts rfl rfl ⟨Nat.le_of_ble_eq_true rfl, Nat.le_of_ble_eq_true rfl⟩ (tx_code.of (hts _ mw_1240)) (hts _ mw_12) (by decide +kernel) (hts _ mw_1237)) (hts _ mw_1239) (hts _ ms_Mo_good) ⟨tz_blind, sv_recv (q0 := 0) hts in_Mo hK hI kM_0 rfl, fun U hU hW => ⟨rfl, by rw [hU], by rw [hU]; exact hI.1, va_K.moved hW.alike hK, hst _ _ hI.2 U hU hW⟩⟩ rfl rfl hl.1 rfl (lv_room (Nat.le_of_ble_eq_true rfl)) d_Mo_entry_150 ⟨Nat.le_of_ble_eq_true rfl, Nat.le_of_ble_eq_true rfl⟩) hI.2 (fun q _ h => ga_sub hAC hA0 hI.2 q h) (ga_sub hAC hA0 hI.2) (fun v t H1 locs1 ht hWt hpost _ _ hS => ?_) (fun x t H1 locs1 ht hWt hpost _ _ hS => (hpost.2 x rfl).elim)
                rcases hpost.1 _ rfl with ⟨z411, t_tr412, hv, c413, c413_0, c413_1, c413_2, c413_3, hI1⟩ | ⟨z414, hv, c415, c415_0, c415_1, c415_2, c415_3, hI1⟩
                · cases hv
                  have hI : sI (dC, dI) vcl cI cJ (gsM a th t_tr412 dp zi co sh t28z_lt ts mf) A s.heap H1 locs1 := ⟨by rw [← ht]; exact hI1, hS⟩
                  obtain ⟨-, ⟨o416, o417⟩, -, -, -, -, -, -, -⟩ := id c413
                  clear hpost hI1 hS ht hWt
                  revert hI; generalize H1 = H; generalize locs1 = locs; intro hI
                  refine sn_if_ne (tgt := 158) hx hb d_Mo_entry_153 (by decide) (fun b418 => ?_) (fun b418 => ?_)
                  · omega
                  · refine sn_iconst hx hb d_Mo_entry_156 (by decide) (fun z419 hz419 => ?_)
                    subst hZ
                    exact tz_ret (W.iret (v := z419) hx hb hr (fun t ht hW => ⟨⟨fun v9 hv9 => by cases hv9; exact (Or.inl ⟨z419, t_tr412, t28z_lt, rfl, c413, by omega, by omega, by omega, by rw [ht]; exact hI.1⟩), fun x9 hx9 => (by cases hx9)⟩, hI.2.F ht⟩) hI.2.2.2 d_Mo_entry_157)
                · cases hv
                  have hI : sI (dC, dI) vcl cI cJ (gsM a th tr dp zi co sh t28z_lt ts mf) A s.heap H1 locs1 := ⟨by rw [← ht]; exact hI1, hS⟩
                  clear hpost hI1 hS ht hWt
                  revert hI; generalize H1 = H; generalize locs1 = locs; intro hI
                  refine sn_if_ne (tgt := 158) hx hb d_Mo_entry_153 (by decide) (fun b420 => ?_) (fun b420 => ?_)
                  · refine lv_aload_n hx hb d_Mo_entry_158 rfl (lv_at hl 5 rfl) ?_
                    refine lv_iload hx hb d_Mo_entry_159 (lv_at hl 1 rfl) ?_
                    refine sn_iconst hx hb d_Mo_entry_161 (by decide) (fun z421 hz421 => ?_)
                    refine sn_iadd hx hb d_Mo_entry_162 (by omega) (by omega) (fun z422 hz422 => ?_)
                    refine tz_call (A1 := ga (adM a) H.size) (tz_runV (C := "StoryMachineModel") (As := [.int z422]) (rest := []) ⟨hx, hb, hml, hown, hts⟩ (c_Mo_wordAt l hfl dC dI cI cJ a H.size th tr dp zi co sh t28z_lt ts mf z422 c415) (tx_cb (n := 1) hts rfl rfl ⟨Nat.le_of_ble_eq_true rfl, Nat.le_of_ble_eq_true rfl⟩ (tx_code.of (hts _ mw_1252)) (hts _ mw_12) (by decide +kernel) (hts _ mw_1249)) (hts _ mw_1251) (hts _ ms_Mo_wordAt) ⟨tz_blind, sv_recv (q0 := 0) hts in_Mo hK hI kM_0 rfl, fun U hU hW => ⟨rfl, by rw [hU], by rw [hU]; exact hI.1, va_K.moved hW.alike hK, hst _ _ hI.2 U hU hW⟩⟩ rfl rfl hl.1 rfl (lv_room (Nat.le_of_ble_eq_true rfl)) d_Mo_entry_163 ⟨Nat.le_of_ble_eq_true rfl, Nat.le_of_ble_eq_true rfl⟩) hI.2 (fun q _ h => ga_sub hAC hA0 hI.2 q h) (ga_sub hAC hA0 hI.2) (fun v t H1 locs1 ht hWt hpost _ _ hS => ?_) (fun x t H1 locs1 ht hWt hpost _ _ hS => (hpost.2 x rfl).elim)
                    rcases hpost.1 _ rfl with ⟨z423, t_tr424, hv, c425, c425_0, c425_1, c425_2, hI1⟩ | ⟨z426, hv, c427, c427_0, c427_1, c427_2, c427_3, c427_4, hI1⟩
                    · cases hv
                      have hI : sI (dC, dI) vcl cI cJ (gsM a th t_tr424 dp zi co sh t28z_lt ts mf) A s.heap H1 locs1 := ⟨by rw [← ht]; exact hI1, hS⟩
                      obtain ⟨-, ⟨o428, o429⟩, -, -, -, -, -, -, -⟩ := id c425
                      clear hpost hI1 hS ht hWt
                      revert hI; generalize H1 = H; generalize locs1 = locs; intro hI
                      refine lv_istore (lv' := [(8, .int z423), (7, .int z379), (6, .int z375), (5, .int z311), (4, .int z306), (3, .int z292), (0, .ref (a 0)), (1, .int x1), (2, .int x2)]) hx hb d_Mo_entry_166 hl (by decide) rfl (fun ls hl => ?_)
                      refine lv_iload hx hb d_Mo_entry_168 (lv_at hl 2 rfl) ?_
                      refine sn_iconst hx hb d_Mo_entry_170 (by decide) (fun z430 hz430 => ?_)
                      refine sn_iadd hx hb d_Mo_entry_171 (by omega) (by omega) (fun z431 hz431 => ?_)
                      refine lv_istore (lv' := [(9, .int z431), (8, .int z423), (7, .int z379), (6, .int z375), (5, .int z311), (4, .int z306), (3, .int z292), (0, .ref (a 0)), (1, .int x1), (2, .int x2)]) hx hb d_Mo_entry_172 hl (by decide) rfl (fun ls hl => ?_)
                      refine sn_iconst hx hb d_Mo_entry_174 (by decide) (fun z432 hz432 => ?_)
                      refine lv_istore (lv' := [(10, .int z432), (9, .int z431), (8, .int z423), (7, .int z379), (6, .int z375), (5, .int z311), (4, .int z306), (3, .int z292), (0, .ref (a 0)), (1, .int x1), (2, .int x2)]) hx hb d_Mo_entry_175 hl (by decide) rfl (fun ls hl => ?_)
                      exact j177p _ _ _ z292 z306 z311 z375 z379 z423 z431 z432 t_tr424 t28z_lt hI c425 (by omega) (by omega) (by omega) (by omega) (by omega) (by omega) (by omega) (by omega) (by omega) (by omega) (by omega) (by omega) (by omega) (by omega) (by omega) (by omega) (by omega) (by omega) (by omega) (lv_sub hl [8, 9, 10, 7, 6, 5, 4, 3, 2, 1, 0] rfl)
                    · cases hv
                      have hI : sI (dC, dI) vcl cI cJ (gsM a th tr dp zi co sh t28z_lt ts mf) A s.heap H1 locs1 := ⟨by rw [← ht]; exact hI1, hS⟩
                      clear hpost hI1 hS ht hWt
                      revert hI; generalize H1 = H; generalize locs1 = locs; intro hI
                      refine lv_istore (lv' := [(8, .int z426), (7, .int z379), (6, .int z375), (5, .int z311), (4, .int z306), (3, .int z292), (0, .ref (a 0)), (1, .int x1), (2, .int x2)]) hx hb d_Mo_entry_166 hl (by decide) rfl (fun ls hl => ?_)
                      refine lv_iload hx hb d_Mo_entry_168 (lv_at hl 2 rfl) ?_
                      refine sn_iconst hx hb d_Mo_entry_170 (by decide) (fun z433 hz433 => ?_)
                      refine sn_iadd hx hb d_Mo_entry_171 (by omega) (by omega) (fun z434 hz434 => ?_)
                      refine lv_istore (lv' := [(9, .int z434), (8, .int z426), (7, .int z379), (6, .int z375), (5, .int z311), (4, .int z306), (3, .int z292), (0, .ref (a 0)), (1, .int x1), (2, .int x2)]) hx hb d_Mo_entry_172 hl (by decide) rfl (fun ls hl => ?_)
                      refine sn_iconst hx hb d_Mo_entry_174 (by decide) (fun z435 hz435 => ?_)
                      refine lv_istore (lv' := [(10, .int z435), (9, .int z434), (8, .int z426), (7, .int z379), (6, .int z375), (5, .int z311), (4, .int z306), (3, .int z292), (0, .ref (a 0)), (1, .int x1), (2, .int x2)]) hx hb d_Mo_entry_175 hl (by decide) rfl (fun ls hl => ?_)
                      exact j177z 65536 _ _ _ z292 z306 z311 z375 z379 z426 z434 z435 t28z_lt hI c427 (by omega) (by omega) (by omega) (by omega) (by omega) (by omega) (by omega) (by omega) (by omega) (by omega) (by omega) (by omega) (by omega) (by omega) (by omega) (by omega) (by omega) (lv_sub hl [8, 9, 10, 7, 6, 5, 4, 3, 2, 1, 0] rfl) (by omega)
                  · omega
      · refine lv_aload_n hx hb d_Mo_entry_33 rfl (lv_at hl 0 rfl) ?_
        refine lv_aload_n hx hb d_Mo_entry_34 rfl (lv_at hl 0 rfl) ?_
        refine lv_iload_n hx hb d_Mo_entry_35 rfl (lv_at hl 1 rfl) ?_
        refine lv_iload_n hx hb d_Mo_entry_36 rfl (lv_at hl 3 rfl) ?_
        refine sn_iadd hx hb d_Mo_entry_37 (by omega) (by omega) (fun z436 hz436 => ?_)
        refine tz_call (A1 := ga (adM a) H.size) (tz_runV (C := "StoryMachineModel") (As := [.int z436]) (rest := [.ref (a 0)]) ⟨hx, hb, hml, hown, hts⟩ (c_Mo_byteAt l hfl dC dI cI cJ a H.size th tr dp zi co sh t28z_lt ts mf z436 hok) (tx_cb (n := 1) hts rfl rfl ⟨Nat.le_of_ble_eq_true rfl, Nat.le_of_ble_eq_true rfl⟩ (tx_code.of (hts _ mw_1236)) (hts _ mw_12) (by decide +kernel) (hts _ mw_1233)) (hts _ mw_1235) (hts _ ms_Mo_byteAt) ⟨tz_blind, sv_recv (q0 := 0) hts in_Mo hK hI kM_0 rfl, fun U hU hW => ⟨rfl, by rw [hU], by rw [hU]; exact hI.1, va_K.moved hW.alike hK, hst _ _ hI.2 U hU hW⟩⟩ rfl rfl hl.1 rfl (lv_room (Nat.le_of_ble_eq_true rfl)) d_Mo_entry_38 ⟨Nat.le_of_ble_eq_true rfl, Nat.le_of_ble_eq_true rfl⟩) hI.2 (fun q _ h => ga_sub hAC hA0 hI.2 q h) (ga_sub hAC hA0 hI.2) (fun v t H1 locs1 ht hWt hpost _ _ hS => ?_) (fun x t H1 locs1 ht hWt hpost _ _ hS => (hpost.2 x rfl).elim)
        rcases hpost.1 _ rfl with ⟨z437, t_tr438, hv, c439, c439_0, c439_1, c439_2, hI1⟩ | ⟨z440, hv, c441, c441_0, c441_1, c441_2, c441_3, c441_4, hI1⟩
        · cases hv
          have hI : sI (dC, dI) vcl cI cJ (gsM a th t_tr438 dp zi co sh t28z_lt ts mf) A s.heap H1 locs1 := ⟨by rw [← ht]; exact hI1, hS⟩
          obtain ⟨-, ⟨o442, o443⟩, -, -, -, -, -, -, -⟩ := id c439
          clear hpost hI1 hS ht hWt
          revert hI; generalize H1 = H; generalize locs1 = locs; intro hI
          refine tz_call (A1 := ga (adM a) H.size) (tz_runV (C := "StoryMachineModel") (As := [.int z437]) (rest := []) ⟨hx, hb, hml, hown, hts⟩ (c_Mo_addCharacter l hfl dC dI cI cJ a H.size th t_tr438 dp zi co sh t28z_lt ts mf z437 c439 (by omega) (by omega) (by omega)) (tx_cb (n := 1) hts rfl rfl ⟨Nat.le_of_ble_eq_true rfl, Nat.le_of_ble_eq_true rfl⟩ (tx_code.of (hts _ mw_1480)) (hts _ mw_12) (by decide +kernel) (hts _ mw_1477)) (hts _ mw_1479) (hts _ ms_Mo_addCharacter) ⟨tz_blind, sv_recv (q0 := 0) hts in_Mo hK hI kM_0 rfl, fun U hU hW => ⟨rfl, by rw [hU], by rw [hU]; exact hI.1, va_K.moved hW.alike hK, hst _ _ hI.2 U hU hW⟩⟩ rfl rfl hl.1 rfl (lv_room (Nat.le_of_ble_eq_true rfl)) d_Mo_entry_41 ⟨Nat.le_of_ble_eq_true rfl, Nat.le_of_ble_eq_true rfl⟩) hI.2 (fun q _ h => ga_sub hAC hA0 hI.2 q h) (ga_sub hAC hA0 hI.2) (fun v t H1 locs1 ht hWt hpost _ _ hS => ?_) (fun x t H1 locs1 ht hWt hpost _ _ hS => (hpost.2 x rfl).elim)
          rcases hpost.1 _ rfl with ⟨t_lt444, hv, c445, c445_0, c445_1, hI1⟩
          cases hv
          have hI : sI (dC, dI) vcl cI cJ (gsM a th t_tr438 dp zi co sh t_lt444 ts mf) A s.heap H1 locs1 := ⟨by rw [← ht]; exact hI1, hS⟩
          obtain ⟨-, -, -, -, -, -, ⟨o446, o447⟩, -, -⟩ := id c445
          clear hpost hI1 hS ht hWt
          revert hI; generalize H1 = H; generalize locs1 = locs; intro hI
          refine sn_iinc (k := 3) hx hb d_Mo_entry_44 hl rfl (by decide) (by decide) (by omega) (by omega) (fun ls z448 hz448 hl => ?_)
          have hl : lv_has ls 11 [(3, .int z448), (0, .ref (a 0)), (1, .int x1), (2, .int x2)] := hl
          refine lv_goto (tgt := 28) hx hb d_Mo_entry_47 (by decide) ?_
          exact j28p 24 _ _ _ z448 t_tr438 t_lt444 hI c445 (by omega) (by omega) (by omega) (by omega) (by omega) (by omega) (by omega) (by omega) (lv_sub hl [1, 2, 3, 0] rfl) (by omega)
        · cases hv
          have hI : sI (dC, dI) vcl cI cJ (gsM a th tr dp zi co sh t28z_lt ts mf) A s.heap H1 locs1 := ⟨by rw [← ht]; exact hI1, hS⟩
          clear hpost hI1 hS ht hWt
          revert hI; generalize H1 = H; generalize locs1 = locs; intro hI
          refine tz_call (A1 := ga (adM a) H.size) (tz_runV (C := "StoryMachineModel") (As := [.int z440]) (rest := []) ⟨hx, hb, hml, hown, hts⟩ (c_Mo_addCharacter l hfl dC dI cI cJ a H.size th tr dp zi co sh t28z_lt ts mf z440 c441 (by omega) (by omega) (by omega)) (tx_cb (n := 1) hts rfl rfl ⟨Nat.le_of_ble_eq_true rfl, Nat.le_of_ble_eq_true rfl⟩ (tx_code.of (hts _ mw_1480)) (hts _ mw_12) (by decide +kernel) (hts _ mw_1477)) (hts _ mw_1479) (hts _ ms_Mo_addCharacter) ⟨tz_blind, sv_recv (q0 := 0) hts in_Mo hK hI kM_0 rfl, fun U hU hW => ⟨rfl, by rw [hU], by rw [hU]; exact hI.1, va_K.moved hW.alike hK, hst _ _ hI.2 U hU hW⟩⟩ rfl rfl hl.1 rfl (lv_room (Nat.le_of_ble_eq_true rfl)) d_Mo_entry_41 ⟨Nat.le_of_ble_eq_true rfl, Nat.le_of_ble_eq_true rfl⟩) hI.2 (fun q _ h => ga_sub hAC hA0 hI.2 q h) (ga_sub hAC hA0 hI.2) (fun v t H1 locs1 ht hWt hpost _ _ hS => ?_) (fun x t H1 locs1 ht hWt hpost _ _ hS => (hpost.2 x rfl).elim)
          rcases hpost.1 _ rfl with ⟨t_lt449, hv, c450, c450_0, c450_1, hI1⟩
          cases hv
          have hI : sI (dC, dI) vcl cI cJ (gsM a th tr dp zi co sh t_lt449 ts mf) A s.heap H1 locs1 := ⟨by rw [← ht]; exact hI1, hS⟩
          obtain ⟨-, -, -, -, -, -, ⟨o451, o452⟩, -, -⟩ := id c450
          clear hpost hI1 hS ht hWt
          revert hI; generalize H1 = H; generalize locs1 = locs; intro hI
          refine sn_iinc (k := 3) hx hb d_Mo_entry_44 hl rfl (by decide) (by decide) (by omega) (by omega) (fun ls z453 hz453 hl => ?_)
          have hl : lv_has ls 11 [(3, .int z453), (0, .ref (a 0)), (1, .int x1), (2, .int x2)] := hl
          refine lv_goto (tgt := 28) hx hb d_Mo_entry_47 (by decide) ?_
          exact ih _ _ _ z453 t_lt449 hI c450 (by omega) (by omega) (by omega) (by omega) (by omega) (by omega) (by omega) (lv_sub hl [1, 2, 3, 0] rfl) (by omega)
  have j28u : ∀ (H : Heap) (locs : List Loc) (ls : Array Slot) (v28u_3 : Int32) (t28u_lt : Int), sI (dC, dI) vcl cI cJ (gsM a th tr dp zi co sh t28u_lt ts mf) A s.heap H locs → okM th tr dp zi co sh t28u_lt ts mf → 0 ≤ v28u_3.toInt → v28u_3.toInt ≤ 0 → 0 ≤ t28u_lt → t28u_lt ≤ 0 → t28u_lt ≤ 4 * v28u_3.toInt → lv_has ls 11 [(0, .ref (a 0)), (1, .int x1), (2, .int x2), (3, .int v28u_3)] → W p l e (headSpec tw_tbl rm_Mo_entry).room s m ([.ref (a 0), .int x1, .int x2] : List Value).toArray below meth c H locs 0 0 Z (F0 m 28 ls []) := by
    intro H locs ls v28u_3 t28u_lt hI hok g28_0 g28_1 g28_2 g28_3 g28_4 hl
    obtain ⟨⟨o454, o455⟩, ⟨o456, o457⟩, ⟨o458, o459⟩, ⟨o460, o461⟩, ⟨o462, o463⟩, ⟨o464, o465⟩, ⟨o466, o467⟩, ⟨o468, o469⟩, -⟩ := id hok
    refine lv_iload_n hx hb d_Mo_entry_28 rfl (lv_at hl 3 rfl) ?_
    refine lv_iload_n hx hb d_Mo_entry_29 rfl (lv_at hl 2 rfl) ?_
    refine sn_icmp_ge (tgt := 50) hx hb d_Mo_entry_30 (by decide) (fun b470 => ?_) (fun b470 => ?_)
    · refine lv_aload_n hx hb d_Mo_entry_50 rfl (lv_at hl 0 rfl) ?_
      refine sv_getr (C := "StoryMachineModel") (T := T_Mo) (N := 51) hx hb hts in_Mo hown hK hI 0 kM_0 rfl 48 (by decide) (hts _ mw_1111) rfl d_Mo_entry_51 ?_
      refine sn_iconst hx hb d_Mo_entry_54 (by decide) (fun z471 hz471 => ?_)
      refine sv_ialdr hx hb hK hI 19 kM_19 (by omega) (by omega) d_Mo_entry_55 (fun z472 hz472a hz472b => ?_)
      refine sn_bipush hx hb d_Mo_entry_56 (by decide) (fun z473 hz473 => ?_)
      refine sn_imulT hx hb d_Mo_entry_58 (fun z474 hz474a hz474b => ?_)
      refine lv_aload_n hx hb d_Mo_entry_59 rfl (lv_at hl 0 rfl) ?_
      refine sv_getr (C := "StoryMachineModel") (T := T_Mo) (N := 51) hx hb hts in_Mo hown hK hI 0 kM_0 rfl 48 (by decide) (hts _ mw_1111) rfl d_Mo_entry_60 ?_
      refine sn_iconst hx hb d_Mo_entry_63 (by decide) (fun z475 hz475 => ?_)
      refine sv_ialdr hx hb hK hI 19 kM_19 (by omega) (by omega) d_Mo_entry_64 (fun z476 hz476a hz476b => ?_)
      refine sn_iaddT hx hb d_Mo_entry_65 (fun z477 hz477a hz477b => ?_)
      refine sn_bipush hx hb d_Mo_entry_66 (by decide) (fun z478 hz478 => ?_)
      refine sn_imulT hx hb d_Mo_entry_68 (fun z479 hz479a hz479b => ?_)
      refine lv_aload_n hx hb d_Mo_entry_69 rfl (lv_at hl 0 rfl) ?_
      refine sv_getr (C := "StoryMachineModel") (T := T_Mo) (N := 51) hx hb hts in_Mo hown hK hI 0 kM_0 rfl 48 (by decide) (hts _ mw_1111) rfl d_Mo_entry_70 ?_
      refine sn_iconst hx hb d_Mo_entry_73 (by decide) (fun z480 hz480 => ?_)
      refine sv_ialdr hx hb hK hI 19 kM_19 (by omega) (by omega) d_Mo_entry_74 (fun z481 hz481a hz481b => ?_)
      refine sn_iaddT hx hb d_Mo_entry_75 (fun z482 hz482a hz482b => ?_)
      refine lv_istore_n (lv' := [(3, .int z482), (0, .ref (a 0)), (1, .int x1), (2, .int x2)]) hx hb d_Mo_entry_76 rfl hl (by decide) rfl (fun ls hl => ?_)
      refine lv_aload_n hx hb d_Mo_entry_77 rfl (lv_at hl 1 rfl) ?_
      refine sv_getr (C := "StoryMachineModel") (T := T_Mo) (N := 51) hx hb hts in_Mo hown hK hI 0 kM_0 rfl 48 (by decide) (hts _ mw_1111) rfl d_Mo_entry_78 ?_
      refine sn_iconst hx hb d_Mo_entry_81 (by decide) (fun z483 hz483 => ?_)
      refine sv_ialdr hx hb hK hI 19 kM_19 (by omega) (by omega) d_Mo_entry_82 (fun z484 hz484a hz484b => ?_)
      refine sn_bipush hx hb d_Mo_entry_83 (by decide) (fun z485 hz485 => ?_)
      refine sn_imulT hx hb d_Mo_entry_85 (fun z486 hz486a hz486b => ?_)
      refine lv_aload_n hx hb d_Mo_entry_86 rfl (lv_at hl 1 rfl) ?_
      refine sv_getr (C := "StoryMachineModel") (T := T_Mo) (N := 51) hx hb hts in_Mo hown hK hI 0 kM_0 rfl 48 (by decide) (hts _ mw_1111) rfl d_Mo_entry_87 ?_
      refine sn_iconst hx hb d_Mo_entry_90 (by decide) (fun z487 hz487 => ?_)
      refine sv_ialdr hx hb hK hI 19 kM_19 (by omega) (by omega) d_Mo_entry_91 (fun z488 hz488a hz488b => ?_)
      refine sn_iaddT hx hb d_Mo_entry_92 (fun z489 hz489a hz489b => ?_)
      refine sn_bipush hx hb d_Mo_entry_93 (by decide) (fun z490 hz490 => ?_)
      refine sn_imulT hx hb d_Mo_entry_95 (fun z491 hz491a hz491b => ?_)
      refine lv_aload_n hx hb d_Mo_entry_96 rfl (lv_at hl 1 rfl) ?_
      refine sv_getr (C := "StoryMachineModel") (T := T_Mo) (N := 51) hx hb hts in_Mo hown hK hI 0 kM_0 rfl 48 (by decide) (hts _ mw_1111) rfl d_Mo_entry_97 ?_
      refine sn_iconst hx hb d_Mo_entry_100 (by decide) (fun z492 hz492 => ?_)
      refine sv_ialdr hx hb hK hI 19 kM_19 (by omega) (by omega) d_Mo_entry_101 (fun z493 hz493a hz493b => ?_)
      refine sn_iaddT hx hb d_Mo_entry_102 (fun z494 hz494a hz494b => ?_)
      refine sn_ldc (n := 32768) hx hb hown (hts _ mw_1402) d_Mo_entry_103 (by decide) (fun z495 hz495 => ?_)
      refine sn_iaddT hx hb d_Mo_entry_105 (fun z496 hz496a hz496b => ?_)
      refine lv_istore (lv' := [(4, .int z496), (3, .int z482), (0, .ref (a 0)), (1, .int x1), (2, .int x2)]) hx hb d_Mo_entry_106 hl (by decide) rfl (fun ls hl => ?_)
      refine lv_aload_n hx hb d_Mo_entry_108 rfl (lv_at hl 2 rfl) ?_
      refine sn_bipush hx hb d_Mo_entry_109 (by decide) (fun z497 hz497 => ?_)
      refine tz_call (A1 := ga (adM a) H.size) (tz_runV (C := "StoryMachineModel") (As := [.int z497]) (rest := []) ⟨hx, hb, hml, hown, hts⟩ (c_Mo_wordAt l hfl dC dI cI cJ a H.size th tr dp zi co sh t28u_lt ts mf z497 hok) (tx_cb (n := 1) hts rfl rfl ⟨Nat.le_of_ble_eq_true rfl, Nat.le_of_ble_eq_true rfl⟩ (tx_code.of (hts _ mw_1252)) (hts _ mw_12) (by decide +kernel) (hts _ mw_1249)) (hts _ mw_1251) (hts _ ms_Mo_wordAt) ⟨tz_blind, sv_recv (q0 := 0) hts in_Mo hK hI kM_0 rfl, fun U hU hW => ⟨rfl, by rw [hU], by rw [hU]; exact hI.1, va_K.moved hW.alike hK, hst _ _ hI.2 U hU hW⟩⟩ rfl rfl hl.1 rfl (lv_room (Nat.le_of_ble_eq_true rfl)) d_Mo_entry_111 ⟨Nat.le_of_ble_eq_true rfl, Nat.le_of_ble_eq_true rfl⟩) hI.2 (fun q _ h => ga_sub hAC hA0 hI.2 q h) (ga_sub hAC hA0 hI.2) (fun v t H1 locs1 ht hWt hpost _ _ hS => ?_) (fun x t H1 locs1 ht hWt hpost _ _ hS => (hpost.2 x rfl).elim)
      rcases hpost.1 _ rfl with ⟨z498, t_tr499, hv, c500, c500_0, c500_1, c500_2, hI1⟩ | ⟨z501, hv, c502, c502_0, c502_1, c502_2, c502_3, c502_4, hI1⟩
      · cases hv
        have hI : sI (dC, dI) vcl cI cJ (gsM a th t_tr499 dp zi co sh t28u_lt ts mf) A s.heap H1 locs1 := ⟨by rw [← ht]; exact hI1, hS⟩
        obtain ⟨-, ⟨o503, o504⟩, -, -, -, -, -, -, -⟩ := id c500
        clear hpost hI1 hS ht hWt
        revert hI; generalize H1 = H; generalize locs1 = locs; intro hI
        refine lv_istore (lv' := [(5, .int z498), (4, .int z496), (3, .int z482), (0, .ref (a 0)), (1, .int x1), (2, .int x2)]) hx hb d_Mo_entry_114 hl (by decide) rfl (fun ls hl => ?_)
        refine lv_iload hx hb d_Mo_entry_116 (lv_at hl 0 rfl) ?_
        refine sn_iconst hx hb d_Mo_entry_118 (by decide) (fun z505 hz505 => ?_)
        refine sn_iadd hx hb d_Mo_entry_119 (by omega) (by omega) (fun z506 hz506 => ?_)
        refine lv_aload_n hx hb d_Mo_entry_120 rfl (lv_at hl 3 rfl) ?_
        refine lv_iload hx hb d_Mo_entry_121 (lv_at hl 0 rfl) ?_
        refine tz_call (A1 := ga (adM a) H.size) (tz_runV (C := "StoryMachineModel") (As := [.int z498]) (rest := [.int z506]) ⟨hx, hb, hml, hown, hts⟩ (c_Mo_byteAt l hfl dC dI cI cJ a H.size th t_tr499 dp zi co sh t28u_lt ts mf z498 c500) (tx_cb (n := 1) hts rfl rfl ⟨Nat.le_of_ble_eq_true rfl, Nat.le_of_ble_eq_true rfl⟩ (tx_code.of (hts _ mw_1236)) (hts _ mw_12) (by decide +kernel) (hts _ mw_1233)) (hts _ mw_1235) (hts _ ms_Mo_byteAt) ⟨tz_blind, sv_recv (q0 := 0) hts in_Mo hK hI kM_0 rfl, fun U hU hW => ⟨rfl, by rw [hU], by rw [hU]; exact hI.1, va_K.moved hW.alike hK, hst _ _ hI.2 U hU hW⟩⟩ rfl rfl hl.1 rfl (lv_room (Nat.le_of_ble_eq_true rfl)) d_Mo_entry_123 ⟨Nat.le_of_ble_eq_true rfl, Nat.le_of_ble_eq_true rfl⟩) hI.2 (fun q _ h => ga_sub hAC hA0 hI.2 q h) (ga_sub hAC hA0 hI.2) (fun v t H1 locs1 ht hWt hpost _ _ hS => ?_) (fun x t H1 locs1 ht hWt hpost _ _ hS => (hpost.2 x rfl).elim)
        rcases hpost.1 _ rfl with ⟨z507, t_tr508, hv, c509, c509_0, c509_1, c509_2, hI1⟩ | ⟨z510, hv, c511, c511_0, c511_1, c511_2, c511_3, c511_4, hI1⟩
        · cases hv
          have hI : sI (dC, dI) vcl cI cJ (gsM a th t_tr508 dp zi co sh t28u_lt ts mf) A s.heap H1 locs1 := ⟨by rw [← ht]; exact hI1, hS⟩
          obtain ⟨-, ⟨o512, o513⟩, -, -, -, -, -, -, -⟩ := id c509
          clear hpost hI1 hS ht hWt
          revert hI; generalize H1 = H; generalize locs1 = locs; intro hI
          refine sn_iadd hx hb d_Mo_entry_126 (by omega) (by omega) (fun z514 hz514 => ?_)
          refine lv_istore (lv' := [(6, .int z514), (5, .int z498), (4, .int z496), (3, .int z482), (0, .ref (a 0)), (1, .int x1), (2, .int x2)]) hx hb d_Mo_entry_127 hl (by decide) rfl (fun ls hl => ?_)
          refine lv_aload_n hx hb d_Mo_entry_129 rfl (lv_at hl 4 rfl) ?_
          refine lv_iload hx hb d_Mo_entry_130 (lv_at hl 0 rfl) ?_
          refine tz_call (A1 := ga (adM a) H.size) (tz_runV (C := "StoryMachineModel") (As := [.int z514]) (rest := []) ⟨hx, hb, hml, hown, hts⟩ (c_Mo_byteAt l hfl dC dI cI cJ a H.size th t_tr508 dp zi co sh t28u_lt ts mf z514 c509) (tx_cb (n := 1) hts rfl rfl ⟨Nat.le_of_ble_eq_true rfl, Nat.le_of_ble_eq_true rfl⟩ (tx_code.of (hts _ mw_1236)) (hts _ mw_12) (by decide +kernel) (hts _ mw_1233)) (hts _ mw_1235) (hts _ ms_Mo_byteAt) ⟨tz_blind, sv_recv (q0 := 0) hts in_Mo hK hI kM_0 rfl, fun U hU hW => ⟨rfl, by rw [hU], by rw [hU]; exact hI.1, va_K.moved hW.alike hK, hst _ _ hI.2 U hU hW⟩⟩ rfl rfl hl.1 rfl (lv_room (Nat.le_of_ble_eq_true rfl)) d_Mo_entry_132 ⟨Nat.le_of_ble_eq_true rfl, Nat.le_of_ble_eq_true rfl⟩) hI.2 (fun q _ h => ga_sub hAC hA0 hI.2 q h) (ga_sub hAC hA0 hI.2) (fun v t H1 locs1 ht hWt hpost _ _ hS => ?_) (fun x t H1 locs1 ht hWt hpost _ _ hS => (hpost.2 x rfl).elim)
          rcases hpost.1 _ rfl with ⟨z515, t_tr516, hv, c517, c517_0, c517_1, c517_2, hI1⟩ | ⟨z518, hv, c519, c519_0, c519_1, c519_2, c519_3, c519_4, hI1⟩
          · cases hv
            have hI : sI (dC, dI) vcl cI cJ (gsM a th t_tr516 dp zi co sh t28u_lt ts mf) A s.heap H1 locs1 := ⟨by rw [← ht]; exact hI1, hS⟩
            obtain ⟨-, ⟨o520, o521⟩, -, -, -, -, -, -, -⟩ := id c517
            clear hpost hI1 hS ht hWt
            revert hI; generalize H1 = H; generalize locs1 = locs; intro hI
            refine lv_istore (lv' := [(7, .int z515), (6, .int z514), (5, .int z498), (4, .int z496), (3, .int z482), (0, .ref (a 0)), (1, .int x1), (2, .int x2)]) hx hb d_Mo_entry_135 hl (by decide) rfl (fun ls hl => ?_)
            refine lv_aload_n hx hb d_Mo_entry_137 rfl (lv_at hl 5 rfl) ?_
            refine lv_iload hx hb d_Mo_entry_138 (lv_at hl 0 rfl) ?_
            refine sn_iconst hx hb d_Mo_entry_140 (by decide) (fun z522 hz522 => ?_)
            refine sn_icmp_le (tgt := 148) hx hb d_Mo_entry_141 (by decide) (fun b523 => ?_) (fun b523 => ?_)
            · refine sn_iconst hx hb d_Mo_entry_148 (by decide) (fun z524 hz524 => ?_)
              refine sn_iconst hx hb d_Mo_entry_149 (by decide) (fun z525 hz525 => ?_)
              refine tz_call (A1 := ga (adM a) H.size) (tz_runV (C := "StoryMachineModel") (As := [.int z524, .int z525]) (rest := []) ⟨hx, hb, hml, hown, hts⟩ (c_Mo_good l hfl dC dI cI cJ a H.size th t_tr516 dp zi co sh t28u_lt ts mf z524 z525 c517 (by omega) (by omega) (by omega) (by omega)) (tx_cb (n := 2) hts rfl rfl ⟨Nat.le_of_ble_eq_true rfl, Nat.le_of_ble_eq_true rfl⟩ (tx_code.of (hts _ mw_1240)) (hts _ mw_12) (by decide +kernel) (hts _ mw_1237)) (hts _ mw_1239) (hts _ ms_Mo_good) ⟨tz_blind, sv_recv (q0 := 0) hts in_Mo hK hI kM_0 rfl, fun U hU hW => ⟨rfl, by rw [hU], by rw [hU]; exact hI.1, va_K.moved hW.alike hK, hst _ _ hI.2 U hU hW⟩⟩ rfl rfl hl.1 rfl (lv_room (Nat.le_of_ble_eq_true rfl)) d_Mo_entry_150 ⟨Nat.le_of_ble_eq_true rfl, Nat.le_of_ble_eq_true rfl⟩) hI.2 (fun q _ h => ga_sub hAC hA0 hI.2 q h) (ga_sub hAC hA0 hI.2) (fun v t H1 locs1 ht hWt hpost _ _ hS => ?_) (fun x t H1 locs1 ht hWt hpost _ _ hS => (hpost.2 x rfl).elim)
              rcases hpost.1 _ rfl with ⟨z526, t_tr527, hv, c528, c528_0, c528_1, c528_2, c528_3, hI1⟩ | ⟨z529, hv, c530, c530_0, c530_1, c530_2, c530_3, hI1⟩
              · cases hv
                have hI : sI (dC, dI) vcl cI cJ (gsM a th t_tr527 dp zi co sh t28u_lt ts mf) A s.heap H1 locs1 := ⟨by rw [← ht]; exact hI1, hS⟩
                obtain ⟨-, ⟨o531, o532⟩, -, -, -, -, -, -, -⟩ := id c528
                clear hpost hI1 hS ht hWt
                revert hI; generalize H1 = H; generalize locs1 = locs; intro hI
                refine sn_if_ne (tgt := 158) hx hb d_Mo_entry_153 (by decide) (fun b533 => ?_) (fun b533 => ?_)
                · omega
                · refine sn_iconst hx hb d_Mo_entry_156 (by decide) (fun z534 hz534 => ?_)
                  subst hZ
                  exact tz_ret (W.iret (v := z534) hx hb hr (fun t ht hW => ⟨⟨fun v9 hv9 => by cases hv9; exact (Or.inl ⟨z534, t_tr527, t28u_lt, rfl, c528, by omega, by omega, by omega, by rw [ht]; exact hI.1⟩), fun x9 hx9 => (by cases hx9)⟩, hI.2.F ht⟩) hI.2.2.2 d_Mo_entry_157)
              · omega
            · omega
          · omega
        · omega
      · cases hv
        have hI : sI (dC, dI) vcl cI cJ (gsM a th tr dp zi co sh t28u_lt ts mf) A s.heap H1 locs1 := ⟨by rw [← ht]; exact hI1, hS⟩
        clear hpost hI1 hS ht hWt
        revert hI; generalize H1 = H; generalize locs1 = locs; intro hI
        refine lv_istore (lv' := [(5, .int z501), (4, .int z496), (3, .int z482), (0, .ref (a 0)), (1, .int x1), (2, .int x2)]) hx hb d_Mo_entry_114 hl (by decide) rfl (fun ls hl => ?_)
        refine lv_iload hx hb d_Mo_entry_116 (lv_at hl 0 rfl) ?_
        refine sn_iconst hx hb d_Mo_entry_118 (by decide) (fun z535 hz535 => ?_)
        refine sn_iadd hx hb d_Mo_entry_119 (by omega) (by omega) (fun z536 hz536 => ?_)
        refine lv_aload_n hx hb d_Mo_entry_120 rfl (lv_at hl 3 rfl) ?_
        refine lv_iload hx hb d_Mo_entry_121 (lv_at hl 0 rfl) ?_
        refine tz_call (A1 := ga (adM a) H.size) (tz_runV (C := "StoryMachineModel") (As := [.int z501]) (rest := [.int z536]) ⟨hx, hb, hml, hown, hts⟩ (c_Mo_byteAt l hfl dC dI cI cJ a H.size th tr dp zi co sh t28u_lt ts mf z501 c502) (tx_cb (n := 1) hts rfl rfl ⟨Nat.le_of_ble_eq_true rfl, Nat.le_of_ble_eq_true rfl⟩ (tx_code.of (hts _ mw_1236)) (hts _ mw_12) (by decide +kernel) (hts _ mw_1233)) (hts _ mw_1235) (hts _ ms_Mo_byteAt) ⟨tz_blind, sv_recv (q0 := 0) hts in_Mo hK hI kM_0 rfl, fun U hU hW => ⟨rfl, by rw [hU], by rw [hU]; exact hI.1, va_K.moved hW.alike hK, hst _ _ hI.2 U hU hW⟩⟩ rfl rfl hl.1 rfl (lv_room (Nat.le_of_ble_eq_true rfl)) d_Mo_entry_123 ⟨Nat.le_of_ble_eq_true rfl, Nat.le_of_ble_eq_true rfl⟩) hI.2 (fun q _ h => ga_sub hAC hA0 hI.2 q h) (ga_sub hAC hA0 hI.2) (fun v t H1 locs1 ht hWt hpost _ _ hS => ?_) (fun x t H1 locs1 ht hWt hpost _ _ hS => (hpost.2 x rfl).elim)
        rcases hpost.1 _ rfl with ⟨z537, t_tr538, hv, c539, c539_0, c539_1, c539_2, hI1⟩ | ⟨z540, hv, c541, c541_0, c541_1, c541_2, c541_3, c541_4, hI1⟩
        · cases hv
          have hI : sI (dC, dI) vcl cI cJ (gsM a th t_tr538 dp zi co sh t28u_lt ts mf) A s.heap H1 locs1 := ⟨by rw [← ht]; exact hI1, hS⟩
          obtain ⟨-, ⟨o542, o543⟩, -, -, -, -, -, -, -⟩ := id c539
          clear hpost hI1 hS ht hWt
          revert hI; generalize H1 = H; generalize locs1 = locs; intro hI
          refine sn_iadd hx hb d_Mo_entry_126 (by omega) (by omega) (fun z544 hz544 => ?_)
          refine lv_istore (lv' := [(6, .int z544), (5, .int z501), (4, .int z496), (3, .int z482), (0, .ref (a 0)), (1, .int x1), (2, .int x2)]) hx hb d_Mo_entry_127 hl (by decide) rfl (fun ls hl => ?_)
          refine lv_aload_n hx hb d_Mo_entry_129 rfl (lv_at hl 4 rfl) ?_
          refine lv_iload hx hb d_Mo_entry_130 (lv_at hl 0 rfl) ?_
          refine tz_call (A1 := ga (adM a) H.size) (tz_runV (C := "StoryMachineModel") (As := [.int z544]) (rest := []) ⟨hx, hb, hml, hown, hts⟩ (c_Mo_byteAt l hfl dC dI cI cJ a H.size th t_tr538 dp zi co sh t28u_lt ts mf z544 c539) (tx_cb (n := 1) hts rfl rfl ⟨Nat.le_of_ble_eq_true rfl, Nat.le_of_ble_eq_true rfl⟩ (tx_code.of (hts _ mw_1236)) (hts _ mw_12) (by decide +kernel) (hts _ mw_1233)) (hts _ mw_1235) (hts _ ms_Mo_byteAt) ⟨tz_blind, sv_recv (q0 := 0) hts in_Mo hK hI kM_0 rfl, fun U hU hW => ⟨rfl, by rw [hU], by rw [hU]; exact hI.1, va_K.moved hW.alike hK, hst _ _ hI.2 U hU hW⟩⟩ rfl rfl hl.1 rfl (lv_room (Nat.le_of_ble_eq_true rfl)) d_Mo_entry_132 ⟨Nat.le_of_ble_eq_true rfl, Nat.le_of_ble_eq_true rfl⟩) hI.2 (fun q _ h => ga_sub hAC hA0 hI.2 q h) (ga_sub hAC hA0 hI.2) (fun v t H1 locs1 ht hWt hpost _ _ hS => ?_) (fun x t H1 locs1 ht hWt hpost _ _ hS => (hpost.2 x rfl).elim)
          rcases hpost.1 _ rfl with ⟨z545, t_tr546, hv, c547, c547_0, c547_1, c547_2, hI1⟩ | ⟨z548, hv, c549, c549_0, c549_1, c549_2, c549_3, c549_4, hI1⟩
          · cases hv
            have hI : sI (dC, dI) vcl cI cJ (gsM a th t_tr546 dp zi co sh t28u_lt ts mf) A s.heap H1 locs1 := ⟨by rw [← ht]; exact hI1, hS⟩
            obtain ⟨-, ⟨o550, o551⟩, -, -, -, -, -, -, -⟩ := id c547
            clear hpost hI1 hS ht hWt
            revert hI; generalize H1 = H; generalize locs1 = locs; intro hI
            refine lv_istore (lv' := [(7, .int z545), (6, .int z544), (5, .int z501), (4, .int z496), (3, .int z482), (0, .ref (a 0)), (1, .int x1), (2, .int x2)]) hx hb d_Mo_entry_135 hl (by decide) rfl (fun ls hl => ?_)
            refine lv_aload_n hx hb d_Mo_entry_137 rfl (lv_at hl 5 rfl) ?_
            refine lv_iload hx hb d_Mo_entry_138 (lv_at hl 0 rfl) ?_
            refine sn_iconst hx hb d_Mo_entry_140 (by decide) (fun z552 hz552 => ?_)
            refine sn_icmp_le (tgt := 148) hx hb d_Mo_entry_141 (by decide) (fun b553 => ?_) (fun b553 => ?_)
            · refine sn_iconst hx hb d_Mo_entry_148 (by decide) (fun z554 hz554 => ?_)
              refine sn_iconst hx hb d_Mo_entry_149 (by decide) (fun z555 hz555 => ?_)
              refine tz_call (A1 := ga (adM a) H.size) (tz_runV (C := "StoryMachineModel") (As := [.int z554, .int z555]) (rest := []) ⟨hx, hb, hml, hown, hts⟩ (c_Mo_good l hfl dC dI cI cJ a H.size th t_tr546 dp zi co sh t28u_lt ts mf z554 z555 c547 (by omega) (by omega) (by omega) (by omega)) (tx_cb (n := 2) hts rfl rfl ⟨Nat.le_of_ble_eq_true rfl, Nat.le_of_ble_eq_true rfl⟩ (tx_code.of (hts _ mw_1240)) (hts _ mw_12) (by decide +kernel) (hts _ mw_1237)) (hts _ mw_1239) (hts _ ms_Mo_good) ⟨tz_blind, sv_recv (q0 := 0) hts in_Mo hK hI kM_0 rfl, fun U hU hW => ⟨rfl, by rw [hU], by rw [hU]; exact hI.1, va_K.moved hW.alike hK, hst _ _ hI.2 U hU hW⟩⟩ rfl rfl hl.1 rfl (lv_room (Nat.le_of_ble_eq_true rfl)) d_Mo_entry_150 ⟨Nat.le_of_ble_eq_true rfl, Nat.le_of_ble_eq_true rfl⟩) hI.2 (fun q _ h => ga_sub hAC hA0 hI.2 q h) (ga_sub hAC hA0 hI.2) (fun v t H1 locs1 ht hWt hpost _ _ hS => ?_) (fun x t H1 locs1 ht hWt hpost _ _ hS => (hpost.2 x rfl).elim)
              rcases hpost.1 _ rfl with ⟨z556, t_tr557, hv, c558, c558_0, c558_1, c558_2, c558_3, hI1⟩ | ⟨z559, hv, c560, c560_0, c560_1, c560_2, c560_3, hI1⟩
              · cases hv
                have hI : sI (dC, dI) vcl cI cJ (gsM a th t_tr557 dp zi co sh t28u_lt ts mf) A s.heap H1 locs1 := ⟨by rw [← ht]; exact hI1, hS⟩
                obtain ⟨-, ⟨o561, o562⟩, -, -, -, -, -, -, -⟩ := id c558
                clear hpost hI1 hS ht hWt
                revert hI; generalize H1 = H; generalize locs1 = locs; intro hI
                refine sn_if_ne (tgt := 158) hx hb d_Mo_entry_153 (by decide) (fun b563 => ?_) (fun b563 => ?_)
                · omega
                · refine sn_iconst hx hb d_Mo_entry_156 (by decide) (fun z564 hz564 => ?_)
                  subst hZ
                  exact tz_ret (W.iret (v := z564) hx hb hr (fun t ht hW => ⟨⟨fun v9 hv9 => by cases hv9; exact (Or.inl ⟨z564, t_tr557, t28u_lt, rfl, c558, by omega, by omega, by omega, by rw [ht]; exact hI.1⟩), fun x9 hx9 => (by cases hx9)⟩, hI.2.F ht⟩) hI.2.2.2 d_Mo_entry_157)
              · omega
            · omega
          · omega
        · cases hv
          have hI : sI (dC, dI) vcl cI cJ (gsM a th tr dp zi co sh t28u_lt ts mf) A s.heap H1 locs1 := ⟨by rw [← ht]; exact hI1, hS⟩
          clear hpost hI1 hS ht hWt
          revert hI; generalize H1 = H; generalize locs1 = locs; intro hI
          refine sn_iadd hx hb d_Mo_entry_126 (by omega) (by omega) (fun z565 hz565 => ?_)
          refine lv_istore (lv' := [(6, .int z565), (5, .int z501), (4, .int z496), (3, .int z482), (0, .ref (a 0)), (1, .int x1), (2, .int x2)]) hx hb d_Mo_entry_127 hl (by decide) rfl (fun ls hl => ?_)
          refine lv_aload_n hx hb d_Mo_entry_129 rfl (lv_at hl 4 rfl) ?_
          refine lv_iload hx hb d_Mo_entry_130 (lv_at hl 0 rfl) ?_
          refine tz_call (A1 := ga (adM a) H.size) (tz_runV (C := "StoryMachineModel") (As := [.int z565]) (rest := []) ⟨hx, hb, hml, hown, hts⟩ (c_Mo_byteAt l hfl dC dI cI cJ a H.size th tr dp zi co sh t28u_lt ts mf z565 c541) (tx_cb (n := 1) hts rfl rfl ⟨Nat.le_of_ble_eq_true rfl, Nat.le_of_ble_eq_true rfl⟩ (tx_code.of (hts _ mw_1236)) (hts _ mw_12) (by decide +kernel) (hts _ mw_1233)) (hts _ mw_1235) (hts _ ms_Mo_byteAt) ⟨tz_blind, sv_recv (q0 := 0) hts in_Mo hK hI kM_0 rfl, fun U hU hW => ⟨rfl, by rw [hU], by rw [hU]; exact hI.1, va_K.moved hW.alike hK, hst _ _ hI.2 U hU hW⟩⟩ rfl rfl hl.1 rfl (lv_room (Nat.le_of_ble_eq_true rfl)) d_Mo_entry_132 ⟨Nat.le_of_ble_eq_true rfl, Nat.le_of_ble_eq_true rfl⟩) hI.2 (fun q _ h => ga_sub hAC hA0 hI.2 q h) (ga_sub hAC hA0 hI.2) (fun v t H1 locs1 ht hWt hpost _ _ hS => ?_) (fun x t H1 locs1 ht hWt hpost _ _ hS => (hpost.2 x rfl).elim)
          rcases hpost.1 _ rfl with ⟨z566, t_tr567, hv, c568, c568_0, c568_1, c568_2, hI1⟩ | ⟨z569, hv, c570, c570_0, c570_1, c570_2, c570_3, c570_4, hI1⟩
          · cases hv
            have hI : sI (dC, dI) vcl cI cJ (gsM a th t_tr567 dp zi co sh t28u_lt ts mf) A s.heap H1 locs1 := ⟨by rw [← ht]; exact hI1, hS⟩
            obtain ⟨-, ⟨o571, o572⟩, -, -, -, -, -, -, -⟩ := id c568
            clear hpost hI1 hS ht hWt
            revert hI; generalize H1 = H; generalize locs1 = locs; intro hI
            refine lv_istore (lv' := [(7, .int z566), (6, .int z565), (5, .int z501), (4, .int z496), (3, .int z482), (0, .ref (a 0)), (1, .int x1), (2, .int x2)]) hx hb d_Mo_entry_135 hl (by decide) rfl (fun ls hl => ?_)
            refine lv_aload_n hx hb d_Mo_entry_137 rfl (lv_at hl 5 rfl) ?_
            refine lv_iload hx hb d_Mo_entry_138 (lv_at hl 0 rfl) ?_
            refine sn_iconst hx hb d_Mo_entry_140 (by decide) (fun z573 hz573 => ?_)
            refine sn_icmp_le (tgt := 148) hx hb d_Mo_entry_141 (by decide) (fun b574 => ?_) (fun b574 => ?_)
            · refine sn_iconst hx hb d_Mo_entry_148 (by decide) (fun z575 hz575 => ?_)
              refine sn_iconst hx hb d_Mo_entry_149 (by decide) (fun z576 hz576 => ?_)
              refine tz_call (A1 := ga (adM a) H.size) (tz_runV (C := "StoryMachineModel") (As := [.int z575, .int z576]) (rest := []) ⟨hx, hb, hml, hown, hts⟩ (c_Mo_good l hfl dC dI cI cJ a H.size th t_tr567 dp zi co sh t28u_lt ts mf z575 z576 c568 (by omega) (by omega) (by omega) (by omega)) (tx_cb (n := 2) hts rfl rfl ⟨Nat.le_of_ble_eq_true rfl, Nat.le_of_ble_eq_true rfl⟩ (tx_code.of (hts _ mw_1240)) (hts _ mw_12) (by decide +kernel) (hts _ mw_1237)) (hts _ mw_1239) (hts _ ms_Mo_good) ⟨tz_blind, sv_recv (q0 := 0) hts in_Mo hK hI kM_0 rfl, fun U hU hW => ⟨rfl, by rw [hU], by rw [hU]; exact hI.1, va_K.moved hW.alike hK, hst _ _ hI.2 U hU hW⟩⟩ rfl rfl hl.1 rfl (lv_room (Nat.le_of_ble_eq_true rfl)) d_Mo_entry_150 ⟨Nat.le_of_ble_eq_true rfl, Nat.le_of_ble_eq_true rfl⟩) hI.2 (fun q _ h => ga_sub hAC hA0 hI.2 q h) (ga_sub hAC hA0 hI.2) (fun v t H1 locs1 ht hWt hpost _ _ hS => ?_) (fun x t H1 locs1 ht hWt hpost _ _ hS => (hpost.2 x rfl).elim)
              rcases hpost.1 _ rfl with ⟨z577, t_tr578, hv, c579, c579_0, c579_1, c579_2, c579_3, hI1⟩ | ⟨z580, hv, c581, c581_0, c581_1, c581_2, c581_3, hI1⟩
              · cases hv
                have hI : sI (dC, dI) vcl cI cJ (gsM a th t_tr578 dp zi co sh t28u_lt ts mf) A s.heap H1 locs1 := ⟨by rw [← ht]; exact hI1, hS⟩
                obtain ⟨-, ⟨o582, o583⟩, -, -, -, -, -, -, -⟩ := id c579
                clear hpost hI1 hS ht hWt
                revert hI; generalize H1 = H; generalize locs1 = locs; intro hI
                refine sn_if_ne (tgt := 158) hx hb d_Mo_entry_153 (by decide) (fun b584 => ?_) (fun b584 => ?_)
                · omega
                · refine sn_iconst hx hb d_Mo_entry_156 (by decide) (fun z585 hz585 => ?_)
                  subst hZ
                  exact tz_ret (W.iret (v := z585) hx hb hr (fun t ht hW => ⟨⟨fun v9 hv9 => by cases hv9; exact (Or.inl ⟨z585, t_tr578, t28u_lt, rfl, c579, by omega, by omega, by omega, by rw [ht]; exact hI.1⟩), fun x9 hx9 => (by cases hx9)⟩, hI.2.F ht⟩) hI.2.2.2 d_Mo_entry_157)
              · omega
            · omega
          · cases hv
            have hI : sI (dC, dI) vcl cI cJ (gsM a th tr dp zi co sh t28u_lt ts mf) A s.heap H1 locs1 := ⟨by rw [← ht]; exact hI1, hS⟩
            clear hpost hI1 hS ht hWt
            revert hI; generalize H1 = H; generalize locs1 = locs; intro hI
            refine lv_istore (lv' := [(7, .int z569), (6, .int z565), (5, .int z501), (4, .int z496), (3, .int z482), (0, .ref (a 0)), (1, .int x1), (2, .int x2)]) hx hb d_Mo_entry_135 hl (by decide) rfl (fun ls hl => ?_)
            refine lv_aload_n hx hb d_Mo_entry_137 rfl (lv_at hl 5 rfl) ?_
            refine lv_iload hx hb d_Mo_entry_138 (lv_at hl 0 rfl) ?_
            refine sn_iconst hx hb d_Mo_entry_140 (by decide) (fun z586 hz586 => ?_)
            refine sn_icmp_le (tgt := 148) hx hb d_Mo_entry_141 (by decide) (fun b587 => ?_) (fun b587 => ?_)
            · refine sn_iconst hx hb d_Mo_entry_148 (by decide) (fun z588 hz588 => ?_)
              refine sn_iconst hx hb d_Mo_entry_149 (by decide) (fun z589 hz589 => ?_)
              refine tz_call (A1 := ga (adM a) H.size) (tz_runV (C := "StoryMachineModel") (As := [.int z588, .int z589]) (rest := []) ⟨hx, hb, hml, hown, hts⟩ (c_Mo_good l hfl dC dI cI cJ a H.size th tr dp zi co sh t28u_lt ts mf z588 z589 c570 (by omega) (by omega) (by omega) (by omega)) (tx_cb (n := 2) hts rfl rfl ⟨Nat.le_of_ble_eq_true rfl, Nat.le_of_ble_eq_true rfl⟩ (tx_code.of (hts _ mw_1240)) (hts _ mw_12) (by decide +kernel) (hts _ mw_1237)) (hts _ mw_1239) (hts _ ms_Mo_good) ⟨tz_blind, sv_recv (q0 := 0) hts in_Mo hK hI kM_0 rfl, fun U hU hW => ⟨rfl, by rw [hU], by rw [hU]; exact hI.1, va_K.moved hW.alike hK, hst _ _ hI.2 U hU hW⟩⟩ rfl rfl hl.1 rfl (lv_room (Nat.le_of_ble_eq_true rfl)) d_Mo_entry_150 ⟨Nat.le_of_ble_eq_true rfl, Nat.le_of_ble_eq_true rfl⟩) hI.2 (fun q _ h => ga_sub hAC hA0 hI.2 q h) (ga_sub hAC hA0 hI.2) (fun v t H1 locs1 ht hWt hpost _ _ hS => ?_) (fun x t H1 locs1 ht hWt hpost _ _ hS => (hpost.2 x rfl).elim)
              rcases hpost.1 _ rfl with ⟨z590, t_tr591, hv, c592, c592_0, c592_1, c592_2, c592_3, hI1⟩ | ⟨z593, hv, c594, c594_0, c594_1, c594_2, c594_3, hI1⟩
              · cases hv
                have hI : sI (dC, dI) vcl cI cJ (gsM a th t_tr591 dp zi co sh t28u_lt ts mf) A s.heap H1 locs1 := ⟨by rw [← ht]; exact hI1, hS⟩
                obtain ⟨-, ⟨o595, o596⟩, -, -, -, -, -, -, -⟩ := id c592
                clear hpost hI1 hS ht hWt
                revert hI; generalize H1 = H; generalize locs1 = locs; intro hI
                refine sn_if_ne (tgt := 158) hx hb d_Mo_entry_153 (by decide) (fun b597 => ?_) (fun b597 => ?_)
                · omega
                · refine sn_iconst hx hb d_Mo_entry_156 (by decide) (fun z598 hz598 => ?_)
                  subst hZ
                  exact tz_ret (W.iret (v := z598) hx hb hr (fun t ht hW => ⟨⟨fun v9 hv9 => by cases hv9; exact (Or.inl ⟨z598, t_tr591, t28u_lt, rfl, c592, by omega, by omega, by omega, by rw [ht]; exact hI.1⟩), fun x9 hx9 => (by cases hx9)⟩, hI.2.F ht⟩) hI.2.2.2 d_Mo_entry_157)
              · omega
            · refine sn_iconst hx hb d_Mo_entry_144 (by decide) (fun z599 hz599 => ?_)
              refine lv_goto (tgt := 149) hx hb d_Mo_entry_145 (by decide) ?_
              refine sn_iconst hx hb d_Mo_entry_149 (by decide) (fun z600 hz600 => ?_)
              refine tz_call (A1 := ga (adM a) H.size) (tz_runV (C := "StoryMachineModel") (As := [.int z599, .int z600]) (rest := []) ⟨hx, hb, hml, hown, hts⟩ (c_Mo_good l hfl dC dI cI cJ a H.size th tr dp zi co sh t28u_lt ts mf z599 z600 c570 (by omega) (by omega) (by omega) (by omega)) (tx_cb (n := 2) hts rfl rfl ⟨Nat.le_of_ble_eq_true rfl, Nat.le_of_ble_eq_true rfl⟩ (tx_code.of (hts _ mw_1240)) (hts _ mw_12) (by decide +kernel) (hts _ mw_1237)) (hts _ mw_1239) (hts _ ms_Mo_good) ⟨tz_blind, sv_recv (q0 := 0) hts in_Mo hK hI kM_0 rfl, fun U hU hW => ⟨rfl, by rw [hU], by rw [hU]; exact hI.1, va_K.moved hW.alike hK, hst _ _ hI.2 U hU hW⟩⟩ rfl rfl hl.1 rfl (lv_room (Nat.le_of_ble_eq_true rfl)) d_Mo_entry_150 ⟨Nat.le_of_ble_eq_true rfl, Nat.le_of_ble_eq_true rfl⟩) hI.2 (fun q _ h => ga_sub hAC hA0 hI.2 q h) (ga_sub hAC hA0 hI.2) (fun v t H1 locs1 ht hWt hpost _ _ hS => ?_) (fun x t H1 locs1 ht hWt hpost _ _ hS => (hpost.2 x rfl).elim)
              rcases hpost.1 _ rfl with ⟨z601, t_tr602, hv, c603, c603_0, c603_1, c603_2, c603_3, hI1⟩ | ⟨z604, hv, c605, c605_0, c605_1, c605_2, c605_3, hI1⟩
              · cases hv
                have hI : sI (dC, dI) vcl cI cJ (gsM a th t_tr602 dp zi co sh t28u_lt ts mf) A s.heap H1 locs1 := ⟨by rw [← ht]; exact hI1, hS⟩
                obtain ⟨-, ⟨o606, o607⟩, -, -, -, -, -, -, -⟩ := id c603
                clear hpost hI1 hS ht hWt
                revert hI; generalize H1 = H; generalize locs1 = locs; intro hI
                refine sn_if_ne (tgt := 158) hx hb d_Mo_entry_153 (by decide) (fun b608 => ?_) (fun b608 => ?_)
                · omega
                · refine sn_iconst hx hb d_Mo_entry_156 (by decide) (fun z609 hz609 => ?_)
                  subst hZ
                  exact tz_ret (W.iret (v := z609) hx hb hr (fun t ht hW => ⟨⟨fun v9 hv9 => by cases hv9; exact (Or.inl ⟨z609, t_tr602, t28u_lt, rfl, c603, by omega, by omega, by omega, by rw [ht]; exact hI.1⟩), fun x9 hx9 => (by cases hx9)⟩, hI.2.F ht⟩) hI.2.2.2 d_Mo_entry_157)
              · cases hv
                have hI : sI (dC, dI) vcl cI cJ (gsM a th tr dp zi co sh t28u_lt ts mf) A s.heap H1 locs1 := ⟨by rw [← ht]; exact hI1, hS⟩
                clear hpost hI1 hS ht hWt
                revert hI; generalize H1 = H; generalize locs1 = locs; intro hI
                refine sn_if_ne (tgt := 158) hx hb d_Mo_entry_153 (by decide) (fun b610 => ?_) (fun b610 => ?_)
                · refine lv_aload_n hx hb d_Mo_entry_158 rfl (lv_at hl 5 rfl) ?_
                  refine lv_iload hx hb d_Mo_entry_159 (lv_at hl 1 rfl) ?_
                  refine sn_iconst hx hb d_Mo_entry_161 (by decide) (fun z611 hz611 => ?_)
                  refine sn_iadd hx hb d_Mo_entry_162 (by omega) (by omega) (fun z612 hz612 => ?_)
                  refine tz_call (A1 := ga (adM a) H.size) (tz_runV (C := "StoryMachineModel") (As := [.int z612]) (rest := []) ⟨hx, hb, hml, hown, hts⟩ (c_Mo_wordAt l hfl dC dI cI cJ a H.size th tr dp zi co sh t28u_lt ts mf z612 c605) (tx_cb (n := 1) hts rfl rfl ⟨Nat.le_of_ble_eq_true rfl, Nat.le_of_ble_eq_true rfl⟩ (tx_code.of (hts _ mw_1252)) (hts _ mw_12) (by decide +kernel) (hts _ mw_1249)) (hts _ mw_1251) (hts _ ms_Mo_wordAt) ⟨tz_blind, sv_recv (q0 := 0) hts in_Mo hK hI kM_0 rfl, fun U hU hW => ⟨rfl, by rw [hU], by rw [hU]; exact hI.1, va_K.moved hW.alike hK, hst _ _ hI.2 U hU hW⟩⟩ rfl rfl hl.1 rfl (lv_room (Nat.le_of_ble_eq_true rfl)) d_Mo_entry_163 ⟨Nat.le_of_ble_eq_true rfl, Nat.le_of_ble_eq_true rfl⟩) hI.2 (fun q _ h => ga_sub hAC hA0 hI.2 q h) (ga_sub hAC hA0 hI.2) (fun v t H1 locs1 ht hWt hpost _ _ hS => ?_) (fun x t H1 locs1 ht hWt hpost _ _ hS => (hpost.2 x rfl).elim)
                  rcases hpost.1 _ rfl with ⟨z613, t_tr614, hv, c615, c615_0, c615_1, c615_2, hI1⟩ | ⟨z616, hv, c617, c617_0, c617_1, c617_2, c617_3, c617_4, hI1⟩
                  · cases hv
                    have hI : sI (dC, dI) vcl cI cJ (gsM a th t_tr614 dp zi co sh t28u_lt ts mf) A s.heap H1 locs1 := ⟨by rw [← ht]; exact hI1, hS⟩
                    obtain ⟨-, ⟨o618, o619⟩, -, -, -, -, -, -, -⟩ := id c615
                    clear hpost hI1 hS ht hWt
                    revert hI; generalize H1 = H; generalize locs1 = locs; intro hI
                    refine lv_istore (lv' := [(8, .int z613), (7, .int z569), (6, .int z565), (5, .int z501), (4, .int z496), (3, .int z482), (0, .ref (a 0)), (1, .int x1), (2, .int x2)]) hx hb d_Mo_entry_166 hl (by decide) rfl (fun ls hl => ?_)
                    refine lv_iload hx hb d_Mo_entry_168 (lv_at hl 2 rfl) ?_
                    refine sn_iconst hx hb d_Mo_entry_170 (by decide) (fun z620 hz620 => ?_)
                    refine sn_iadd hx hb d_Mo_entry_171 (by omega) (by omega) (fun z621 hz621 => ?_)
                    refine lv_istore (lv' := [(9, .int z621), (8, .int z613), (7, .int z569), (6, .int z565), (5, .int z501), (4, .int z496), (3, .int z482), (0, .ref (a 0)), (1, .int x1), (2, .int x2)]) hx hb d_Mo_entry_172 hl (by decide) rfl (fun ls hl => ?_)
                    refine sn_iconst hx hb d_Mo_entry_174 (by decide) (fun z622 hz622 => ?_)
                    refine lv_istore (lv' := [(10, .int z622), (9, .int z621), (8, .int z613), (7, .int z569), (6, .int z565), (5, .int z501), (4, .int z496), (3, .int z482), (0, .ref (a 0)), (1, .int x1), (2, .int x2)]) hx hb d_Mo_entry_175 hl (by decide) rfl (fun ls hl => ?_)
                    exact j177p _ _ _ z482 z496 z501 z565 z569 z613 z621 z622 t_tr614 t28u_lt hI c615 (by omega) (by omega) (by omega) (by omega) (by omega) (by omega) (by omega) (by omega) (by omega) (by omega) (by omega) (by omega) (by omega) (by omega) (by omega) (by omega) (by omega) (by omega) (by omega) (lv_sub hl [8, 9, 10, 7, 6, 5, 4, 3, 2, 1, 0] rfl)
                  · cases hv
                    have hI : sI (dC, dI) vcl cI cJ (gsM a th tr dp zi co sh t28u_lt ts mf) A s.heap H1 locs1 := ⟨by rw [← ht]; exact hI1, hS⟩
                    clear hpost hI1 hS ht hWt
                    revert hI; generalize H1 = H; generalize locs1 = locs; intro hI
                    refine lv_istore (lv' := [(8, .int z616), (7, .int z569), (6, .int z565), (5, .int z501), (4, .int z496), (3, .int z482), (0, .ref (a 0)), (1, .int x1), (2, .int x2)]) hx hb d_Mo_entry_166 hl (by decide) rfl (fun ls hl => ?_)
                    refine lv_iload hx hb d_Mo_entry_168 (lv_at hl 2 rfl) ?_
                    refine sn_iconst hx hb d_Mo_entry_170 (by decide) (fun z623 hz623 => ?_)
                    refine sn_iadd hx hb d_Mo_entry_171 (by omega) (by omega) (fun z624 hz624 => ?_)
                    refine lv_istore (lv' := [(9, .int z624), (8, .int z616), (7, .int z569), (6, .int z565), (5, .int z501), (4, .int z496), (3, .int z482), (0, .ref (a 0)), (1, .int x1), (2, .int x2)]) hx hb d_Mo_entry_172 hl (by decide) rfl (fun ls hl => ?_)
                    refine sn_iconst hx hb d_Mo_entry_174 (by decide) (fun z625 hz625 => ?_)
                    refine lv_istore (lv' := [(10, .int z625), (9, .int z624), (8, .int z616), (7, .int z569), (6, .int z565), (5, .int z501), (4, .int z496), (3, .int z482), (0, .ref (a 0)), (1, .int x1), (2, .int x2)]) hx hb d_Mo_entry_175 hl (by decide) rfl (fun ls hl => ?_)
                    exact j177z 65536 _ _ _ z482 z496 z501 z565 z569 z616 z624 z625 t28u_lt hI c617 (by omega) (by omega) (by omega) (by omega) (by omega) (by omega) (by omega) (by omega) (by omega) (by omega) (by omega) (by omega) (by omega) (by omega) (by omega) (by omega) (by omega) (lv_sub hl [8, 9, 10, 7, 6, 5, 4, 3, 2, 1, 0] rfl) (by omega)
                · omega
    · refine lv_aload_n hx hb d_Mo_entry_33 rfl (lv_at hl 0 rfl) ?_
      refine lv_aload_n hx hb d_Mo_entry_34 rfl (lv_at hl 0 rfl) ?_
      refine lv_iload_n hx hb d_Mo_entry_35 rfl (lv_at hl 1 rfl) ?_
      refine lv_iload_n hx hb d_Mo_entry_36 rfl (lv_at hl 3 rfl) ?_
      refine sn_iadd hx hb d_Mo_entry_37 (by omega) (by omega) (fun z626 hz626 => ?_)
      refine tz_call (A1 := ga (adM a) H.size) (tz_runV (C := "StoryMachineModel") (As := [.int z626]) (rest := [.ref (a 0)]) ⟨hx, hb, hml, hown, hts⟩ (c_Mo_byteAt l hfl dC dI cI cJ a H.size th tr dp zi co sh t28u_lt ts mf z626 hok) (tx_cb (n := 1) hts rfl rfl ⟨Nat.le_of_ble_eq_true rfl, Nat.le_of_ble_eq_true rfl⟩ (tx_code.of (hts _ mw_1236)) (hts _ mw_12) (by decide +kernel) (hts _ mw_1233)) (hts _ mw_1235) (hts _ ms_Mo_byteAt) ⟨tz_blind, sv_recv (q0 := 0) hts in_Mo hK hI kM_0 rfl, fun U hU hW => ⟨rfl, by rw [hU], by rw [hU]; exact hI.1, va_K.moved hW.alike hK, hst _ _ hI.2 U hU hW⟩⟩ rfl rfl hl.1 rfl (lv_room (Nat.le_of_ble_eq_true rfl)) d_Mo_entry_38 ⟨Nat.le_of_ble_eq_true rfl, Nat.le_of_ble_eq_true rfl⟩) hI.2 (fun q _ h => ga_sub hAC hA0 hI.2 q h) (ga_sub hAC hA0 hI.2) (fun v t H1 locs1 ht hWt hpost _ _ hS => ?_) (fun x t H1 locs1 ht hWt hpost _ _ hS => (hpost.2 x rfl).elim)
      rcases hpost.1 _ rfl with ⟨z627, t_tr628, hv, c629, c629_0, c629_1, c629_2, hI1⟩ | ⟨z630, hv, c631, c631_0, c631_1, c631_2, c631_3, c631_4, hI1⟩
      · cases hv
        have hI : sI (dC, dI) vcl cI cJ (gsM a th t_tr628 dp zi co sh t28u_lt ts mf) A s.heap H1 locs1 := ⟨by rw [← ht]; exact hI1, hS⟩
        obtain ⟨-, ⟨o632, o633⟩, -, -, -, -, -, -, -⟩ := id c629
        clear hpost hI1 hS ht hWt
        revert hI; generalize H1 = H; generalize locs1 = locs; intro hI
        refine tz_call (A1 := ga (adM a) H.size) (tz_runV (C := "StoryMachineModel") (As := [.int z627]) (rest := []) ⟨hx, hb, hml, hown, hts⟩ (c_Mo_addCharacter l hfl dC dI cI cJ a H.size th t_tr628 dp zi co sh t28u_lt ts mf z627 c629 (by omega) (by omega) (by omega)) (tx_cb (n := 1) hts rfl rfl ⟨Nat.le_of_ble_eq_true rfl, Nat.le_of_ble_eq_true rfl⟩ (tx_code.of (hts _ mw_1480)) (hts _ mw_12) (by decide +kernel) (hts _ mw_1477)) (hts _ mw_1479) (hts _ ms_Mo_addCharacter) ⟨tz_blind, sv_recv (q0 := 0) hts in_Mo hK hI kM_0 rfl, fun U hU hW => ⟨rfl, by rw [hU], by rw [hU]; exact hI.1, va_K.moved hW.alike hK, hst _ _ hI.2 U hU hW⟩⟩ rfl rfl hl.1 rfl (lv_room (Nat.le_of_ble_eq_true rfl)) d_Mo_entry_41 ⟨Nat.le_of_ble_eq_true rfl, Nat.le_of_ble_eq_true rfl⟩) hI.2 (fun q _ h => ga_sub hAC hA0 hI.2 q h) (ga_sub hAC hA0 hI.2) (fun v t H1 locs1 ht hWt hpost _ _ hS => ?_) (fun x t H1 locs1 ht hWt hpost _ _ hS => (hpost.2 x rfl).elim)
        rcases hpost.1 _ rfl with ⟨t_lt634, hv, c635, c635_0, c635_1, hI1⟩
        cases hv
        have hI : sI (dC, dI) vcl cI cJ (gsM a th t_tr628 dp zi co sh t_lt634 ts mf) A s.heap H1 locs1 := ⟨by rw [← ht]; exact hI1, hS⟩
        obtain ⟨-, -, -, -, -, -, ⟨o636, o637⟩, -, -⟩ := id c635
        clear hpost hI1 hS ht hWt
        revert hI; generalize H1 = H; generalize locs1 = locs; intro hI
        refine sn_iinc (k := 3) hx hb d_Mo_entry_44 hl rfl (by decide) (by decide) (by omega) (by omega) (fun ls z638 hz638 hl => ?_)
        have hl : lv_has ls 11 [(3, .int z638), (0, .ref (a 0)), (1, .int x1), (2, .int x2)] := hl
        refine lv_goto (tgt := 28) hx hb d_Mo_entry_47 (by decide) ?_
        exact j28p 24 _ _ _ z638 t_tr628 t_lt634 hI c635 (by omega) (by omega) (by omega) (by omega) (by omega) (by omega) (by omega) (by omega) (lv_sub hl [1, 2, 3, 0] rfl) (by omega)
      · cases hv
        have hI : sI (dC, dI) vcl cI cJ (gsM a th tr dp zi co sh t28u_lt ts mf) A s.heap H1 locs1 := ⟨by rw [← ht]; exact hI1, hS⟩
        clear hpost hI1 hS ht hWt
        revert hI; generalize H1 = H; generalize locs1 = locs; intro hI
        refine tz_call (A1 := ga (adM a) H.size) (tz_runV (C := "StoryMachineModel") (As := [.int z630]) (rest := []) ⟨hx, hb, hml, hown, hts⟩ (c_Mo_addCharacter l hfl dC dI cI cJ a H.size th tr dp zi co sh t28u_lt ts mf z630 c631 (by omega) (by omega) (by omega)) (tx_cb (n := 1) hts rfl rfl ⟨Nat.le_of_ble_eq_true rfl, Nat.le_of_ble_eq_true rfl⟩ (tx_code.of (hts _ mw_1480)) (hts _ mw_12) (by decide +kernel) (hts _ mw_1477)) (hts _ mw_1479) (hts _ ms_Mo_addCharacter) ⟨tz_blind, sv_recv (q0 := 0) hts in_Mo hK hI kM_0 rfl, fun U hU hW => ⟨rfl, by rw [hU], by rw [hU]; exact hI.1, va_K.moved hW.alike hK, hst _ _ hI.2 U hU hW⟩⟩ rfl rfl hl.1 rfl (lv_room (Nat.le_of_ble_eq_true rfl)) d_Mo_entry_41 ⟨Nat.le_of_ble_eq_true rfl, Nat.le_of_ble_eq_true rfl⟩) hI.2 (fun q _ h => ga_sub hAC hA0 hI.2 q h) (ga_sub hAC hA0 hI.2) (fun v t H1 locs1 ht hWt hpost _ _ hS => ?_) (fun x t H1 locs1 ht hWt hpost _ _ hS => (hpost.2 x rfl).elim)
        rcases hpost.1 _ rfl with ⟨t_lt639, hv, c640, c640_0, c640_1, hI1⟩
        cases hv
        have hI : sI (dC, dI) vcl cI cJ (gsM a th tr dp zi co sh t_lt639 ts mf) A s.heap H1 locs1 := ⟨by rw [← ht]; exact hI1, hS⟩
        obtain ⟨-, -, -, -, -, -, ⟨o641, o642⟩, -, -⟩ := id c640
        clear hpost hI1 hS ht hWt
        revert hI; generalize H1 = H; generalize locs1 = locs; intro hI
        refine sn_iinc (k := 3) hx hb d_Mo_entry_44 hl rfl (by decide) (by decide) (by omega) (by omega) (fun ls z643 hz643 hl => ?_)
        have hl : lv_has ls 11 [(3, .int z643), (0, .ref (a 0)), (1, .int x1), (2, .int x2)] := hl
        refine lv_goto (tgt := 28) hx hb d_Mo_entry_47 (by decide) ?_
        exact j28z 24 _ _ _ z643 t_lt639 hI c640 (by omega) (by omega) (by omega) (by omega) (by omega) (by omega) (by omega) (lv_sub hl [1, 2, 3, 0] rfl) (by omega)
  have j2u : ∀ (n : Nat) (H : Heap) (locs : List Loc) (ls : Array Slot) (v2u_3 : Int32), sI (dC, dI) vcl cI cJ (gsM a th tr dp zi co sh lt ts mf) A s.heap H locs → okM th tr dp zi co sh lt ts mf → 0 ≤ v2u_3.toInt → v2u_3.toInt ≤ 6 → lv_has ls 11 [(0, .ref (a 0)), (1, .int x1), (2, .int x2), (3, .int v2u_3)] → 6 - v2u_3.toInt < (n : Int) → W p l e (headSpec tw_tbl rm_Mo_entry).room s m ([.ref (a 0), .int x1, .int x2] : List Value).toArray below meth c H locs 0 0 Z (F0 m 2 ls []) := by
    intro n
    induction n with
    | zero => intro H locs ls v2u_3 hI hok g2_0 g2_1 hl hme; exfalso; obtain ⟨⟨o644, o645⟩, ⟨o646, o647⟩, ⟨o648, o649⟩, ⟨o650, o651⟩, ⟨o652, o653⟩, ⟨o654, o655⟩, ⟨o656, o657⟩, ⟨o658, o659⟩, -⟩ := id hok; omega
    | succ n ih =>
      intro H locs ls v2u_3 hI hok g2_0 g2_1 hl hme
      obtain ⟨⟨o660, o661⟩, ⟨o662, o663⟩, ⟨o664, o665⟩, ⟨o666, o667⟩, ⟨o668, o669⟩, ⟨o670, o671⟩, ⟨o672, o673⟩, ⟨o674, o675⟩, -⟩ := id hok
      refine lv_iload_n hx hb d_Mo_entry_2 rfl (lv_at hl 3 rfl) ?_
      refine sn_bipush hx hb d_Mo_entry_3 (by decide) (fun z676 hz676 => ?_)
      refine sn_icmp_ge (tgt := 21) hx hb d_Mo_entry_5 (by decide) (fun b677 => ?_) (fun b677 => ?_)
      · refine lv_aload_n hx hb d_Mo_entry_21 rfl (lv_at hl 0 rfl) ?_
        refine sn_iconst hx hb d_Mo_entry_22 (by decide) (fun z678 hz678 => ?_)
        refine sv_put (C := "StoryMachineModel") (T := T_Mo) (N := 51) (ty := .int) hx hb hts in_Mo t_Mo tk_Mo nm_Mo hown hK (sh_in adM_map hAC) hI 0 kM_0 rfl 47 (by decide) (hts _ mw_1110) rfl (by decide +kernel) rfl rfl (Nat.le_of_ble_eq_true rfl) (Int.le_refl _) (Int.le_refl _) pM_0_47 d_Mo_entry_23 (fun H locs hI => ?_)
        refine sn_iconst hx hb d_Mo_entry_26 (by decide) (fun z679 hz679 => ?_)
        refine lv_istore_n (lv' := [(3, .int z679), (0, .ref (a 0)), (1, .int x1), (2, .int x2)]) hx hb d_Mo_entry_27 rfl hl (by decide) rfl (fun ls hl => ?_)
        have ho680 : okM th tr dp zi co sh z678.toInt ts mf := ⟨hok.1, hok.2.1, hok.2.2.1, hok.2.2.2.1, hok.2.2.2.2.1, hok.2.2.2.2.2.1, ⟨by omega, by omega⟩, hok.2.2.2.2.2.2.2.1, hok.2.2.2.2.2.2.2.2⟩
        exact j28u _ _ _ z679 z678.toInt hI ho680 (by omega) (by omega) (by omega) (by omega) (by omega) (lv_sub hl [1, 2, 3, 0] rfl)
      · refine lv_aload_n hx hb d_Mo_entry_8 rfl (lv_at hl 0 rfl) ?_
        refine sv_getr (C := "StoryMachineModel") (T := T_Mo) (N := 51) hx hb hts in_Mo hown hK hI 0 kM_0 rfl 48 (by decide) (hts _ mw_1111) rfl d_Mo_entry_9 ?_
        refine lv_iload_n hx hb d_Mo_entry_12 rfl (lv_at hl 3 rfl) ?_
        refine sn_iconst hx hb d_Mo_entry_13 (by decide) (fun z681 hz681 => ?_)
        refine sv_iastr hx hb hK (sh_in adM_map hAC) hI 19 kM_19 (by omega) (by omega) (by omega) (by omega) pM_19 d_Mo_entry_14 (fun H locs hI => ?_)
        refine sn_iinc (k := 3) hx hb d_Mo_entry_15 hl rfl (by decide) (by decide) (by omega) (by omega) (fun ls z682 hz682 hl => ?_)
        have hl : lv_has ls 11 [(3, .int z682), (0, .ref (a 0)), (1, .int x1), (2, .int x2)] := hl
        refine lv_goto (tgt := 2) hx hb d_Mo_entry_18 (by decide) ?_
        exact ih _ _ _ z682 hI hok (by omega) (by omega) (lv_sub hl [1, 2, 3, 0] rfl) (by omega)
  refine sn_iconst hx hb d_Mo_entry_0 (by decide) (fun z683 hz683 => ?_)
  refine lv_istore_n (lv' := [(3, .int z683), (0, .ref (a 0)), (1, .int x1), (2, .int x2)]) hx hb d_Mo_entry_1 rfl hl (by decide) rfl (fun ls hl => ?_)
  exact j2u 7 _ _ _ z683 hI hok (by omega) (by omega) (lv_sub hl [1, 2, 3, 0] rfl) (by omega)
