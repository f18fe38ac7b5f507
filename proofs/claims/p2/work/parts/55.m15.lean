abbrev q_In_decode (dC : Nat → ClassId) (dI : Nat → Nat → Nat) (cI cJ : ClassId) (a : Nat → Nat) (he dp co li op wd tl lc fo : Int) (sf lf nf : Nat → Int32) (x1 : Int32) (x2 : Int32) : Outcome → State → Prop := fun o t => (∀ v, o = .returned v → ((∃ (he_ co_ li_ op_ fo_ : Int), v = none ∧ okC he_ dp co_ li_ op_ wd tl lc fo_ sf lf nf ∧ (1 ≤ fo_) ∧ sh_I (dC, dI) vcl cI cJ (gsC a he_ dp co_ li_ op_ wd tl lc fo_ sf lf nf) t.heap))) ∧ (∀ x, o = .threw x → ((∃ (he_ co_ li_ op_ fo_ : Int), ta_Ex "java/lang/IllegalArgumentException" x t ∧ okC he_ dp co_ li_ op_ wd tl lc fo_ sf lf nf ∧ sh_I (dC, dI) vcl cI cJ (gsC a he_ dp co_ li_ op_ wd tl lc fo_ sf lf nf) t.heap) ∨ (∃ (he_ co_ li_ op_ : Int), ta_Ex "java/lang/IllegalStateException" x t ∧ okC he_ dp co_ li_ op_ wd tl lc fo sf lf nf ∧ sh_I (dC, dI) vcl cI cJ (gsC a he_ dp co_ li_ op_ wd tl lc fo sf lf nf) t.heap) ∨ (∃ (li_ op_ : Int), ta_Ex "java/lang/UnsupportedOperationException" x t ∧ okC he dp co li_ op_ wd tl lc fo sf lf nf ∧ (x2.toInt ≤ 0) ∧ (3 ≤ li_) ∧ (4 ≤ op_) ∧ (op_ ≤ 4) ∧ sh_I (dC, dI) vcl cI cJ (gsC a he dp co li_ op_ wd tl lc fo sf lf nf) t.heap)))
def rm_In_decode : Room := { frames := 12, cells := 1, slots := 6, locals := 238 }
set_option maxHeartbeats 4000000 in
set_option maxRecDepth 100000 in
theorem c_In_decode (l : Launch) (hfl : l.flags = pinnedFlags ++ [noTraceFlag]) (dC : Nat → ClassId) (dI : Nat → Nat → Nat) (cI cJ : ClassId) (a : Nat → Nat) (sz : Nat) (he dp co li op wd tl lc fo : Int) (sf lf nf : Nat → Int32) (x1 : Int32) (x2 : Int32) (hok : okC he dp co li op wd tl lc fo sf lf nf) (hp0 : 0 ≤ x2.toInt) (hp1 : x2.toInt ≤ 1) : tz_Met l ⟨"StoryMachine$Instruction", "decode", "(IZ)V"⟩ tw_tbl rm_In_decode (tzP (dC, dI) vcl cI cJ (gsC a he dp co li op wd tl lc fo sf lf nf) a (adC a) [.ref (a 19), .int x1, .int x2] sz) (tq_Q (q_In_decode dC dI cI cJ a he dp co li op wd tl lc fo sf lf nf x1 x2) (ga (adC a) sz)) 0 0 1 6 (ga (adC a) sz) := by
  refine tz_ofW (cc := prog_5_method_4_code) (maxL := 4) (ret := none) (by decide) (tx_isM mw_499) ?_
  intro p e s m args below meth c s₁ B hml hv
  obtain ⟨rfl, hsz, hI0, hK, hst0⟩ := hv
  have hx := B.exec
  have hb := B.bytes
  have hr := B.returns
  have hts := atoms_spec (ws := tw_tbl) B.pre
  have hown : s.vm.findClass "StoryMachine$Instruction" = some m.cls := findClass_of_methodNamed B.named
  have hlocks := B.notSynchronized
  subst hsz
  have hst := fun (H : Heap) (locs : List Loc) (hS : va_S (ga (adC a) s.heap.size) s.heap H locs) (U : State) (hU : U.heap = H) (hW : s.WarmedH U.vm) => zS_all adC_map hI0 hst0 hS hU hW
  have hAC : ∀ q ∈ adC a, ga (adC a) s.heap.size q := fun q h => Or.inl h
  have hA0 : ∀ q, s.heap.size ≤ q → ga (adC a) s.heap.size q := fun q h => Or.inr h
  have hI : sI (dC, dI) vcl cI cJ (gsC a he dp co li op wd tl lc fo sf lf nf) (ga (adC a) s.heap.size) s.heap s.heap [] := ⟨hI0, va_S.rf⟩
  clear hI0 hst0
  have hl := lv_entry ([.ref (a 19), .int x1, .int x2]) (n := 4) (Nat.le_of_ble_eq_true rfl)
  rw [lg_entry_eq]
  generalize (lg_sl ([.ref (a 19), .int x1, .int x2]) ++ List.replicate (4 - (lg_sl ([.ref (a 19), .int x1, .int x2])).length) Slot.unset).toArray = ls at hl ⊢
  have hl : lv_has ls 4 [(0, .ref (a 19)), (1, .int x1), (2, .int x2)] := hl
  generalize hZ : tz_MQ below (tq_Q (q_In_decode dC dI cI cJ a he dp co li op wd tl lc fo sf lf nf x1 x2) (ga (adC a) s.heap.size)) ([.ref (a 19), .int x1, .int x2] : List Value).toArray s 0 0 1 6 (ga (adC a) s.heap.size) = Z
  obtain ⟨A, hAe⟩ : ∃ A, A = ga (adC a) s.heap.size := ⟨_, rfl⟩
  rw [← hAe] at hst hAC hA0 hI hZ
  refine sv_start hI (fun H locs hI => ?_)
  obtain ⟨⟨o1, o2⟩, ⟨o3, o4⟩, ⟨o5, o6⟩, ⟨o7, o8⟩, ⟨o9, o10⟩, ⟨o11, o12⟩, ⟨o13, o14⟩, ⟨o15, o16⟩, ⟨o17, o18⟩, o19, -, -⟩ := id hok
  have gx1 := sn_rng x1
  have gx2 := sn_rng x2
  have j69 : ∀ (H : Heap) (locs : List Loc) (ls : Array Slot) (v69_3 : Int32) (t69_he t69_co t69_li t69_op t69_fo : Int), sI (dC, dI) vcl cI cJ (gsC a t69_he dp t69_co t69_li t69_op wd tl lc t69_fo sf lf nf) A s.heap H locs → okC t69_he dp t69_co t69_li t69_op wd tl lc t69_fo sf lf nf → (-2147483648) ≤ v69_3.toInt → v69_3.toInt ≤ 2147483647 → lv_has ls 4 [(0, .ref (a 19)), (1, .int x1), (2, .int x2), (3, .int v69_3)] → W p l e (headSpec tw_tbl rm_In_decode).room s m ([.ref (a 19), .int x1, .int x2] : List Value).toArray below meth c H locs 0 0 Z (F0 m 69 ls []) := by
    intro H locs ls v69_3 t69_he t69_co t69_li t69_op t69_fo hI hok g69_0 g69_1 hl
    obtain ⟨⟨o20, o21⟩, ⟨o22, o23⟩, ⟨o24, o25⟩, ⟨o26, o27⟩, ⟨o28, o29⟩, ⟨o30, o31⟩, ⟨o32, o33⟩, ⟨o34, o35⟩, ⟨o36, o37⟩, o38, -, -⟩ := id hok
    refine W.widen (k := 0) (n := 0) (Nat.le_of_ble_eq_true rfl) (Nat.le_of_ble_eq_true rfl) ?_
    subst hZ
    exact tz_thrown (tth_In_IllegalArgumentException hx hb hfl hown hts (fun U hU hW => (hst _ _ hI.2 U hU hW).1) (by rw [hml]; exact hl.1) d_In_decode_69 d_In_decode_72 d_In_decode_73 d_In_decode_76 (tx_noH B (hts _ mw_499) _) (Nat.le_of_ble_eq_true rfl) (Nat.le_of_ble_eq_true rfl) (Nat.le_of_ble_eq_true rfl) (Nat.le_of_ble_eq_true rfl) (fun t ce hW hz hk hce hcl hvm => ⟨⟨⟨fun v9 hv9 => (by cases hv9), fun x9 hx9 => by cases hx9; exact (Or.inl ⟨t69_he, t69_co, t69_li, t69_op, t69_fo, ⟨ce, hce, hcl, hvm⟩, hok, sh_kept hI.1 hk⟩)⟩, ta_thrown hI.2 hz hk⟩, _, rfl⟩) hI.2.2.2 hlocks)
  have j92 : ∀ (H : Heap) (locs : List Loc) (ls : Array Slot) (v92_3 : Int32) (t92_he t92_co t92_li t92_op t92_fo : Int), sI (dC, dI) vcl cI cJ (gsC a t92_he dp t92_co t92_li t92_op wd tl lc t92_fo sf lf nf) A s.heap H locs → okC t92_he dp t92_co t92_li t92_op wd tl lc t92_fo sf lf nf → (-2147483648) ≤ v92_3.toInt → v92_3.toInt ≤ 2147483647 → 1 ≤ t92_fo → t92_fo ≤ 7 → lv_has ls 4 [(0, .ref (a 19)), (1, .int x1), (2, .int x2), (3, .int v92_3)] → W p l e (headSpec tw_tbl rm_In_decode).room s m ([.ref (a 19), .int x1, .int x2] : List Value).toArray below meth c H locs 0 0 Z (F0 m 92 ls []) := by
    intro H locs ls v92_3 t92_he t92_co t92_li t92_op t92_fo hI hok g92_0 g92_1 g92_2 g92_3 hl
    obtain ⟨⟨o39, o40⟩, ⟨o41, o42⟩, ⟨o43, o44⟩, ⟨o45, o46⟩, ⟨o47, o48⟩, ⟨o49, o50⟩, ⟨o51, o52⟩, ⟨o53, o54⟩, ⟨o55, o56⟩, o57, -, -⟩ := id hok
    refine lv_aload_n hx hb d_In_decode_92 rfl (lv_at hl 0 rfl) ?_
    refine tz_call (A1 := ga (adC a) H.size) (tz_runV (C := "StoryMachine$Instruction") (As := []) (rest := []) ⟨hx, hb, hml, hown, hts⟩ (c_In_branches l hfl dC dI cI cJ a H.size t92_he dp t92_co t92_li t92_op wd tl lc t92_fo sf lf nf  hok) (tx_cb (n := 0) hts rfl rfl ⟨Nat.le_of_ble_eq_true rfl, Nat.le_of_ble_eq_true rfl⟩ (tx_code.of (hts _ mw_591)) (hts _ mw_11) (by decide +kernel) (hts _ mw_588)) (hts _ mw_589) (hts _ mw_590) ⟨tz_blind, sv_recv (q0 := 19) hts in_In hK hI kC_19 rfl, fun U hU hW => ⟨rfl, by rw [hU], by rw [hU]; exact hI.1, va_K.moved hW.alike hK, hst _ _ hI.2 U hU hW⟩⟩ rfl rfl hl.1 rfl (lv_room (Nat.le_of_ble_eq_true rfl)) d_In_decode_93 ⟨Nat.le_of_ble_eq_true rfl, Nat.le_of_ble_eq_true rfl⟩) hI.2 (fun q _ h => ga_sub hAC hA0 hI.2 q h) (ga_sub hAC hA0 hI.2) (fun v t H1 locs1 ht hWt hpost _ _ hS => ?_) (fun x t H1 locs1 ht hWt hpost _ _ hS => (hpost.2 x rfl).elim)
    rcases hpost.1 _ rfl with ⟨z58, hv, c59, c59_0, c59_1, hI1⟩ | ⟨z60, hv, c61, c61_0, c61_1, hI1⟩
    · cases hv
      have hI : sI (dC, dI) vcl cI cJ (gsC a t92_he dp t92_co t92_li t92_op wd tl lc t92_fo sf lf nf) A s.heap H1 locs1 := ⟨by rw [← ht]; exact hI1, hS⟩
      clear hpost hI1 hS ht hWt
      revert hI; generalize H1 = H; generalize locs1 = locs; intro hI
      refine sn_if_eq (tgt := 103) hx hb d_In_decode_96 (by decide) (fun b62 => ?_) (fun b62 => ?_)
      · subst hZ
        exact tz_ret (W.vret hx hb hr (fun t ht hW => ⟨⟨fun v9 hv9 => by cases hv9; exact (⟨t92_he, t92_co, t92_li, t92_op, t92_fo, rfl, c59, by omega, by rw [ht]; exact hI.1⟩), fun x9 hx9 => (by cases hx9)⟩, hI.2.F ht⟩) hI.2.2.2 d_In_decode_103)
      · omega
    · cases hv
      have hI : sI (dC, dI) vcl cI cJ (gsC a t92_he dp t92_co t92_li t92_op wd tl lc t92_fo sf lf nf) A s.heap H1 locs1 := ⟨by rw [← ht]; exact hI1, hS⟩
      clear hpost hI1 hS ht hWt
      revert hI; generalize H1 = H; generalize locs1 = locs; intro hI
      refine sn_if_eq (tgt := 103) hx hb d_In_decode_96 (by decide) (fun b63 => ?_) (fun b63 => ?_)
      · omega
      · refine lv_aload_n hx hb d_In_decode_99 rfl (lv_at hl 0 rfl) ?_
        refine tz_call (A1 := ga (adC a) H.size) (tz_runV (C := "StoryMachine$Instruction") (As := []) (rest := []) ⟨hx, hb, hml, hown, hts⟩ (c_In_readBranch l hfl dC dI cI cJ a H.size t92_he dp t92_co t92_li t92_op wd tl lc t92_fo sf lf nf  c61) (tx_cb (n := 0) hts rfl rfl ⟨Nat.le_of_ble_eq_true rfl, Nat.le_of_ble_eq_true rfl⟩ (tx_code.of (hts _ mw_595)) (hts _ mw_11) (by decide +kernel) (hts _ mw_592)) (hts _ mw_594) (hts _ ms_In_readBranch) ⟨tz_blind, sv_recv (q0 := 19) hts in_In hK hI kC_19 rfl, fun U hU hW => ⟨rfl, by rw [hU], by rw [hU]; exact hI.1, va_K.moved hW.alike hK, hst _ _ hI.2 U hU hW⟩⟩ rfl rfl hl.1 rfl (lv_room (Nat.le_of_ble_eq_true rfl)) d_In_decode_100 ⟨Nat.le_of_ble_eq_true rfl, Nat.le_of_ble_eq_true rfl⟩) hI.2 (fun q _ h => ga_sub hAC hA0 hI.2 q h) (ga_sub hAC hA0 hI.2) (fun v t H1 locs1 ht hWt hpost _ _ hS => ?_) (fun x t H1 locs1 ht hWt hpost _ _ hS => ?_)
        · rcases hpost.1 _ rfl with ⟨hv, c64, hI1⟩
          cases hv
          have hI : sI (dC, dI) vcl cI cJ (gsC a t92_he dp t92_co t92_li t92_op wd tl lc t92_fo sf lf nf) A s.heap H1 locs1 := ⟨by rw [← ht]; exact hI1, hS⟩
          clear hpost hI1 hS ht hWt
          revert hI; generalize H1 = H; generalize locs1 = locs; intro hI
          subst hZ
          exact tz_ret (W.vret hx hb hr (fun t ht hW => ⟨⟨fun v9 hv9 => by cases hv9; exact (⟨t92_he, t92_co, t92_li, t92_op, t92_fo, rfl, c64, by omega, by rw [ht]; exact hI.1⟩), fun x9 hx9 => (by cases hx9)⟩, hI.2.F ht⟩) hI.2.2.2 d_In_decode_103)
        · rcases hpost.2 _ rfl with ⟨hex, c65, hI1⟩
          have hI : sI (dC, dI) vcl cI cJ (gsC a t92_he dp t92_co t92_li t92_op wd tl lc t92_fo sf lf nf) A s.heap H1 locs1 := ⟨by rw [← ht]; exact hI1, hS⟩
          refine tz_widen (k := 1) (n := 6) (Nat.le_of_ble_eq_true rfl) (Nat.le_of_ble_eq_true rfl) ?_
          subst hZ
          exact tz_leave (tx_noH B (hts _ mw_499) _) (fun t9 ht9 hW9 => ⟨⟨fun v9 hv9 => (by cases hv9), fun x9 hx9 => by cases hx9; exact (Or.inl ⟨t92_he, t92_co, t92_li, t92_op, t92_fo, ta_exm hex ht ht9 hWt hW9, c65, by rw [ht9]; exact hI.1⟩)⟩, hI.2.F ht9⟩) hI.2.2.2 hlocks
  have j38 : ∀ (H : Heap) (locs : List Loc) (ls : Array Slot) (v38_3 : Int32) (t38_li t38_op : Int), sI (dC, dI) vcl cI cJ (gsC a he dp co t38_li t38_op wd tl lc fo sf lf nf) A s.heap H locs → okC he dp co t38_li t38_op wd tl lc fo sf lf nf → (-2147483648) ≤ v38_3.toInt → v38_3.toInt ≤ 2147483647 → lv_has ls 4 [(0, .ref (a 19)), (1, .int x1), (2, .int x2), (3, .int v38_3)] → W p l e (headSpec tw_tbl rm_In_decode).room s m ([.ref (a 19), .int x1, .int x2] : List Value).toArray below meth c H locs 0 0 Z (F0 m 38 ls []) := by
    intro H locs ls v38_3 t38_li t38_op hI hok g38_0 g38_1 hl
    obtain ⟨⟨o66, o67⟩, ⟨o68, o69⟩, ⟨o70, o71⟩, ⟨o72, o73⟩, ⟨o74, o75⟩, ⟨o76, o77⟩, ⟨o78, o79⟩, ⟨o80, o81⟩, ⟨o82, o83⟩, o84, -, -⟩ := id hok
    refine lv_aload_n hx hb d_In_decode_38 rfl (lv_at hl 0 rfl) ?_
    refine lv_iload_n hx hb d_In_decode_39 rfl (lv_at hl 3 rfl) ?_
    refine tz_call (A1 := ga (adC a) H.size) (tz_runV (C := "StoryMachine$Instruction") (As := [.int v38_3]) (rest := []) ⟨hx, hb, hml, hown, hts⟩ (c_In_readNumbers l hfl dC dI cI cJ a H.size he dp co t38_li t38_op wd tl lc fo sf lf nf v38_3 hok) (tx_cb (n := 1) hts rfl rfl ⟨Nat.le_of_ble_eq_true rfl, Nat.le_of_ble_eq_true rfl⟩ (tx_code.of (hts _ mw_530)) (hts _ mw_11) (by decide +kernel) (hts _ mw_527)) (hts _ mw_529) (hts _ ms_In_readNumbers) ⟨tz_blind, sv_recv (q0 := 19) hts in_In hK hI kC_19 rfl, fun U hU hW => ⟨rfl, by rw [hU], by rw [hU]; exact hI.1, va_K.moved hW.alike hK, hst _ _ hI.2 U hU hW⟩⟩ rfl rfl hl.1 rfl (lv_room (Nat.le_of_ble_eq_true rfl)) d_In_decode_40 ⟨Nat.le_of_ble_eq_true rfl, Nat.le_of_ble_eq_true rfl⟩) hI.2 (fun q _ h => ga_sub hAC hA0 hI.2 q h) (ga_sub hAC hA0 hI.2) (fun v t H1 locs1 ht hWt hpost _ _ hS => ?_) (fun x t H1 locs1 ht hWt hpost _ _ hS => ?_)
    · rcases hpost.1 _ rfl with ⟨t_he85, t_co86, hv, c87, hI1⟩
      cases hv
      have hI : sI (dC, dI) vcl cI cJ (gsC a t_he85 dp t_co86 t38_li t38_op wd tl lc fo sf lf nf) A s.heap H1 locs1 := ⟨by rw [← ht]; exact hI1, hS⟩
      obtain ⟨⟨o88, o89⟩, -, ⟨o90, o91⟩, -, -, -, -, -, -, -, -, -⟩ := id c87
      clear hpost hI1 hS ht hWt
      revert hI; generalize H1 = H; generalize locs1 = locs; intro hI
      refine lv_aload_n hx hb d_In_decode_43 rfl (lv_at hl 0 rfl) ?_
      refine lv_aload_n hx hb d_In_decode_44 rfl (lv_at hl 0 rfl) ?_
      refine tz_call (A1 := ga (adC a) H.size) (tz_runV (C := "StoryMachine$Instruction") (As := []) (rest := [.ref (a 19)]) ⟨hx, hb, hml, hown, hts⟩ (c_In_formOf l hfl dC dI cI cJ a H.size t_he85 dp t_co86 t38_li t38_op wd tl lc fo sf lf nf  c87) (tx_cb (n := 0) hts rfl rfl ⟨Nat.le_of_ble_eq_true rfl, Nat.le_of_ble_eq_true rfl⟩ (tx_code.of (hts _ mw_567)) (hts _ mw_11) (by decide +kernel) (hts _ mw_564)) (hts _ mw_566) (hts _ ms_In_formOf) ⟨tz_blind, sv_recv (q0 := 19) hts in_In hK hI kC_19 rfl, fun U hU hW => ⟨rfl, by rw [hU], by rw [hU]; exact hI.1, va_K.moved hW.alike hK, hst _ _ hI.2 U hU hW⟩⟩ rfl rfl hl.1 rfl (lv_room (Nat.le_of_ble_eq_true rfl)) d_In_decode_45 ⟨Nat.le_of_ble_eq_true rfl, Nat.le_of_ble_eq_true rfl⟩) hI.2 (fun q _ h => ga_sub hAC hA0 hI.2 q h) (ga_sub hAC hA0 hI.2) (fun v t H1 locs1 ht hWt hpost _ _ hS => ?_) (fun x t H1 locs1 ht hWt hpost _ _ hS => (hpost.2 x rfl).elim)
      rcases hpost.1 _ rfl with ⟨z92, hv, c93, c93_0, c93_1, c93_2, hI1⟩
      cases hv
      have hI : sI (dC, dI) vcl cI cJ (gsC a t_he85 dp t_co86 t38_li t38_op wd tl lc fo sf lf nf) A s.heap H1 locs1 := ⟨by rw [← ht]; exact hI1, hS⟩
      clear hpost hI1 hS ht hWt
      revert hI; generalize H1 = H; generalize locs1 = locs; intro hI
      refine sv_put (C := "StoryMachine$Instruction") (T := T_In) (N := 11) (ty := .int) hx hb hts in_In t_In tk_In nm_In hown hK (sh_in adC_map hAC) hI 19 kC_19 rfl 10 (by decide) (hts _ mw_237) rfl (by decide +kernel) rfl rfl (Nat.le_of_ble_eq_true rfl) (Int.le_refl _) (Int.le_refl _) pC_19_10 d_In_decode_48 (fun H locs hI => ?_)
      refine lv_aload_n hx hb d_In_decode_51 rfl (lv_at hl 0 rfl) ?_
      refine sv_gete (C := "StoryMachine$Instruction") (T := T_In) (N := 11) hx hb hts in_In hown hK hI 19 kC_19 rfl 10 (by decide) (hts _ mw_237) rfl d_In_decode_52 (fun z94 hz94 => ?_)
      refine sn_if_eq (tgt := 69) hx hb d_In_decode_55 (by decide) (fun b95 => ?_) (fun b95 => ?_)
      · have ho96 : okC t_he85 dp t_co86 t38_li t38_op wd tl lc z92.toInt sf lf nf := ⟨c93.1, c93.2.1, c93.2.2.1, c93.2.2.2.1, c93.2.2.2.2.1, c93.2.2.2.2.2.1, c93.2.2.2.2.2.2.1, c93.2.2.2.2.2.2.2.1, ⟨by omega, by omega⟩, c93.2.2.2.2.2.2.2.2.2.1, c93.2.2.2.2.2.2.2.2.2.2.1, c93.2.2.2.2.2.2.2.2.2.2.2⟩
        exact j69 _ _ _ v38_3 t_he85 t_co86 t38_li t38_op z92.toInt hI ho96 (by omega) (by omega) (lv_sub hl [0, 1, 2, 3] rfl)
      · refine lv_aload_n hx hb d_In_decode_58 rfl (lv_at hl 0 rfl) ?_
        refine sv_gete (C := "StoryMachine$Instruction") (T := T_In) (N := 11) hx hb hts in_In hown hK hI 19 kC_19 rfl 3 (by decide) (hts _ mw_223) rfl d_In_decode_59 (fun z97 hz97 => ?_)
        refine lv_aload_n hx hb d_In_decode_62 rfl (lv_at hl 0 rfl) ?_
        have ho98 : okC t_he85 dp t_co86 t38_li t38_op wd tl lc z92.toInt sf lf nf := ⟨c93.1, c93.2.1, c93.2.2.1, c93.2.2.2.1, c93.2.2.2.2.1, c93.2.2.2.2.2.1, c93.2.2.2.2.2.2.1, c93.2.2.2.2.2.2.2.1, ⟨by omega, by omega⟩, c93.2.2.2.2.2.2.2.2.2.1, c93.2.2.2.2.2.2.2.2.2.2.1, c93.2.2.2.2.2.2.2.2.2.2.2⟩
        refine tz_call (A1 := ga (adC a) H.size) (tz_runV (C := "StoryMachine$Instruction") (As := []) (rest := [.int z97]) ⟨hx, hb, hml, hown, hts⟩ (c_In_needed l hfl dC dI cI cJ a H.size t_he85 dp t_co86 t38_li t38_op wd tl lc z92.toInt sf lf nf  ho98 (by omega)) (tx_cb (n := 0) hts rfl rfl ⟨Nat.le_of_ble_eq_true rfl, Nat.le_of_ble_eq_true rfl⟩ (tx_code.of (hts _ mw_579)) (hts _ mw_11) (by decide +kernel) (hts _ mw_576)) (hts _ mw_578) (hts _ ms_In_needed) ⟨tz_blind, sv_recv (q0 := 19) hts in_In hK hI kC_19 rfl, fun U hU hW => ⟨rfl, by rw [hU], by rw [hU]; exact hI.1, va_K.moved hW.alike hK, hst _ _ hI.2 U hU hW⟩⟩ rfl rfl hl.1 rfl (lv_room (Nat.le_of_ble_eq_true rfl)) d_In_decode_63 ⟨Nat.le_of_ble_eq_true rfl, Nat.le_of_ble_eq_true rfl⟩) hI.2 (fun q _ h => ga_sub hAC hA0 hI.2 q h) (ga_sub hAC hA0 hI.2) (fun v t H1 locs1 ht hWt hpost _ _ hS => ?_) (fun x t H1 locs1 ht hWt hpost _ _ hS => (hpost.2 x rfl).elim)
        rcases hpost.1 _ rfl with ⟨z99, hv, c100, c100_0, c100_1, hI1⟩
        cases hv
        have hI : sI (dC, dI) vcl cI cJ (gsC a t_he85 dp t_co86 t38_li t38_op wd tl lc z92.toInt sf lf nf) A s.heap H1 locs1 := ⟨by rw [← ht]; exact hI1, hS⟩
        clear hpost hI1 hS ht hWt
        revert hI; generalize H1 = H; generalize locs1 = locs; intro hI
        refine sn_icmp_ge (tgt := 77) hx hb d_In_decode_66 (by decide) (fun b101 => ?_) (fun b101 => ?_)
        · refine lv_aload_n hx hb d_In_decode_77 rfl (lv_at hl 0 rfl) ?_
          refine tz_call (A1 := ga (adC a) H.size) (tz_runV (C := "StoryMachine$Instruction") (As := []) (rest := []) ⟨hx, hb, hml, hown, hts⟩ (c_In_gives l hfl dC dI cI cJ a H.size t_he85 dp t_co86 t38_li t38_op wd tl lc z92.toInt sf lf nf  c100) (tx_cb (n := 0) hts rfl rfl ⟨Nat.le_of_ble_eq_true rfl, Nat.le_of_ble_eq_true rfl⟩ (tx_code.of (hts _ mw_587)) (hts _ mw_11) (by decide +kernel) (hts _ mw_584)) (hts _ mw_585) (hts _ mw_586) ⟨tz_blind, sv_recv (q0 := 19) hts in_In hK hI kC_19 rfl, fun U hU hW => ⟨rfl, by rw [hU], by rw [hU]; exact hI.1, va_K.moved hW.alike hK, hst _ _ hI.2 U hU hW⟩⟩ rfl rfl hl.1 rfl (lv_room (Nat.le_of_ble_eq_true rfl)) d_In_decode_78 ⟨Nat.le_of_ble_eq_true rfl, Nat.le_of_ble_eq_true rfl⟩) hI.2 (fun q _ h => ga_sub hAC hA0 hI.2 q h) (ga_sub hAC hA0 hI.2) (fun v t H1 locs1 ht hWt hpost _ _ hS => ?_) (fun x t H1 locs1 ht hWt hpost _ _ hS => (hpost.2 x rfl).elim)
          rcases hpost.1 _ rfl with ⟨z102, hv, c103, c103_0, c103_1, hI1⟩ | ⟨z104, hv, c105, c105_0, c105_1, hI1⟩
          · cases hv
            have hI : sI (dC, dI) vcl cI cJ (gsC a t_he85 dp t_co86 t38_li t38_op wd tl lc z92.toInt sf lf nf) A s.heap H1 locs1 := ⟨by rw [← ht]; exact hI1, hS⟩
            clear hpost hI1 hS ht hWt
            revert hI; generalize H1 = H; generalize locs1 = locs; intro hI
            refine sn_if_eq (tgt := 92) hx hb d_In_decode_81 (by decide) (fun b106 => ?_) (fun b106 => ?_)
            · exact j92 _ _ _ v38_3 t_he85 t_co86 t38_li t38_op z92.toInt hI c103 (by omega) (by omega) (by omega) (by omega) (lv_sub hl [0, 1, 2, 3] rfl)
            · omega
          · cases hv
            have hI : sI (dC, dI) vcl cI cJ (gsC a t_he85 dp t_co86 t38_li t38_op wd tl lc z92.toInt sf lf nf) A s.heap H1 locs1 := ⟨by rw [← ht]; exact hI1, hS⟩
            clear hpost hI1 hS ht hWt
            revert hI; generalize H1 = H; generalize locs1 = locs; intro hI
            refine sn_if_eq (tgt := 92) hx hb d_In_decode_81 (by decide) (fun b107 => ?_) (fun b107 => ?_)
            · omega
            · refine lv_aload_n hx hb d_In_decode_84 rfl (lv_at hl 0 rfl) ?_
              refine lv_aload_n hx hb d_In_decode_85 rfl (lv_at hl 0 rfl) ?_
              refine tz_call (A1 := ga (adC a) H.size) (tz_runV (C := "StoryMachine$Instruction") (As := []) (rest := [.ref (a 19)]) ⟨hx, hb, hml, hown, hts⟩ (c_In_nextByte l hfl dC dI cI cJ a H.size t_he85 dp t_co86 t38_li t38_op wd tl lc z92.toInt sf lf nf  c105) (tx_cb (n := 0) hts rfl rfl ⟨Nat.le_of_ble_eq_true rfl, Nat.le_of_ble_eq_true rfl⟩ (tx_code.of (hts _ mw_507)) (hts _ mw_11) (by decide +kernel) (hts _ mw_504)) (hts _ mw_506) (hts _ ms_In_nextByte) ⟨tz_blind, sv_recv (q0 := 19) hts in_In hK hI kC_19 rfl, fun U hU hW => ⟨rfl, by rw [hU], by rw [hU]; exact hI.1, va_K.moved hW.alike hK, hst _ _ hI.2 U hU hW⟩⟩ rfl rfl hl.1 rfl (lv_room (Nat.le_of_ble_eq_true rfl)) d_In_decode_86 ⟨Nat.le_of_ble_eq_true rfl, Nat.le_of_ble_eq_true rfl⟩) hI.2 (fun q _ h => ga_sub hAC hA0 hI.2 q h) (ga_sub hAC hA0 hI.2) (fun v t H1 locs1 ht hWt hpost _ _ hS => ?_) (fun x t H1 locs1 ht hWt hpost _ _ hS => ?_)
              · rcases hpost.1 _ rfl with ⟨z108, hv, c109, c109_0, c109_1, hI1⟩
                cases hv
                have hI : sI (dC, dI) vcl cI cJ (gsC a t_he85 dp t_co86 t38_li t38_op wd tl lc z92.toInt sf lf nf) A s.heap H1 locs1 := ⟨by rw [← ht]; exact hI1, hS⟩
                clear hpost hI1 hS ht hWt
                revert hI; generalize H1 = H; generalize locs1 = locs; intro hI
                refine sv_put (C := "StoryMachine$Instruction") (T := T_In) (N := 11) (ty := .int) hx hb hts in_In t_In tk_In nm_In hown hK (sh_in adC_map hAC) hI 19 kC_19 rfl 7 (by decide) (hts _ mw_231) rfl (by decide +kernel) rfl rfl (Nat.le_of_ble_eq_true rfl) (by omega) (by omega) pC_19_7 d_In_decode_89 (fun H locs hI => ?_)
                exact j92 _ _ _ v38_3 t_he85 t_co86 t38_li t38_op z92.toInt hI c109 (by omega) (by omega) (by omega) (by omega) (lv_sub hl [0, 1, 2, 3] rfl)
              · rcases hpost.2 _ rfl with ⟨hex, c110, hI1⟩
                have hI : sI (dC, dI) vcl cI cJ (gsC a t_he85 dp t_co86 t38_li t38_op wd tl lc z92.toInt sf lf nf) A s.heap H1 locs1 := ⟨by rw [← ht]; exact hI1, hS⟩
                refine tz_widen (k := 1) (n := 6) (Nat.le_of_ble_eq_true rfl) (Nat.le_of_ble_eq_true rfl) ?_
                subst hZ
                exact tz_leave (tx_noH B (hts _ mw_499) _) (fun t9 ht9 hW9 => ⟨⟨fun v9 hv9 => (by cases hv9), fun x9 hx9 => by cases hx9; exact (Or.inl ⟨t_he85, t_co86, t38_li, t38_op, z92.toInt, ta_exm hex ht ht9 hWt hW9, c110, by rw [ht9]; exact hI.1⟩)⟩, hI.2.F ht9⟩) hI.2.2.2 hlocks
        · exact j69 _ _ _ v38_3 t_he85 t_co86 t38_li t38_op z92.toInt hI c100 (by omega) (by omega) (lv_sub hl [0, 1, 2, 3] rfl)
    · rcases hpost.2 _ rfl with ⟨t_he111, t_co112, hex, c113, hI1⟩ | ⟨t_he114, t_co115, hex, c116, hI1⟩
      · have hI : sI (dC, dI) vcl cI cJ (gsC a t_he111 dp t_co112 t38_li t38_op wd tl lc fo sf lf nf) A s.heap H1 locs1 := ⟨by rw [← ht]; exact hI1, hS⟩
        obtain ⟨⟨o117, o118⟩, -, ⟨o119, o120⟩, -, -, -, -, -, -, -, -, -⟩ := id c113
        refine tz_widen (k := 1) (n := 6) (Nat.le_of_ble_eq_true rfl) (Nat.le_of_ble_eq_true rfl) ?_
        subst hZ
        exact tz_leave (tx_noH B (hts _ mw_499) _) (fun t9 ht9 hW9 => ⟨⟨fun v9 hv9 => (by cases hv9), fun x9 hx9 => by cases hx9; exact (Or.inl ⟨t_he111, t_co112, t38_li, t38_op, fo, ta_exm hex ht ht9 hWt hW9, c113, by rw [ht9]; exact hI.1⟩)⟩, hI.2.F ht9⟩) hI.2.2.2 hlocks
      · have hI : sI (dC, dI) vcl cI cJ (gsC a t_he114 dp t_co115 t38_li t38_op wd tl lc fo sf lf nf) A s.heap H1 locs1 := ⟨by rw [← ht]; exact hI1, hS⟩
        obtain ⟨⟨o121, o122⟩, -, ⟨o123, o124⟩, -, -, -, -, -, -, -, -, -⟩ := id c116
        refine tz_widen (k := 1) (n := 6) (Nat.le_of_ble_eq_true rfl) (Nat.le_of_ble_eq_true rfl) ?_
        subst hZ
        exact tz_leave (tx_noH B (hts _ mw_499) _) (fun t9 ht9 hW9 => ⟨⟨fun v9 hv9 => (by cases hv9), fun x9 hx9 => by cases hx9; exact (Or.inr (Or.inl ⟨t_he114, t_co115, t38_li, t38_op, ta_exm hex ht ht9 hWt hW9, c116, by rw [ht9]; exact hI.1⟩))⟩, hI.2.F ht9⟩) hI.2.2.2 hlocks
  refine lv_aload_n hx hb d_In_decode_0 rfl (lv_at hl 0 rfl) ?_
  refine lv_iload_n hx hb d_In_decode_1 rfl (lv_at hl 1 rfl) ?_
  refine sv_put (C := "StoryMachine$Instruction") (T := T_In) (N := 11) (ty := .int) hx hb hts in_In t_In tk_In nm_In hown hK (sh_in adC_map hAC) hI 19 kC_19 rfl 6 (by decide) (hts _ mw_230) rfl (by decide +kernel) rfl rfl (Nat.le_of_ble_eq_true rfl) (by omega) (by omega) pC_19_6 d_In_decode_2 (fun H locs hI => ?_)
  refine lv_aload_n hx hb d_In_decode_5 rfl (lv_at hl 0 rfl) ?_
  refine tz_call (A1 := ga (adC a) H.size) (tz_runV (C := "StoryMachine$Instruction") (As := []) (rest := []) ⟨hx, hb, hml, hown, hts⟩ (c_In_decodeHead l hfl dC dI cI cJ a H.size he dp co li op wd tl lc fo sf lf nf  hok) (tx_cb (n := 0) hts rfl rfl ⟨Nat.le_of_ble_eq_true rfl, Nat.le_of_ble_eq_true rfl⟩ (tx_code.of (hts _ mw_503)) (hts _ mw_11) (by decide +kernel) (hts _ mw_500)) (hts _ mw_502) (hts _ ms_In_decodeHead) ⟨tz_blind, sv_recv (q0 := 19) hts in_In hK hI kC_19 rfl, fun U hU hW => ⟨rfl, by rw [hU], by rw [hU]; exact hI.1, va_K.moved hW.alike hK, hst _ _ hI.2 U hU hW⟩⟩ rfl rfl hl.1 rfl (lv_room (Nat.le_of_ble_eq_true rfl)) d_In_decode_6 ⟨Nat.le_of_ble_eq_true rfl, Nat.le_of_ble_eq_true rfl⟩) hI.2 (fun q _ h => ga_sub hAC hA0 hI.2 q h) (ga_sub hAC hA0 hI.2) (fun v t H1 locs1 ht hWt hpost _ _ hS => ?_) (fun x t H1 locs1 ht hWt hpost _ _ hS => ?_)
  · rcases hpost.1 _ rfl with ⟨z125, t_li126, t_op127, hv, c128, c128_0, c128_1, hI1⟩
    cases hv
    have hI : sI (dC, dI) vcl cI cJ (gsC a he dp co t_li126 t_op127 wd tl lc fo sf lf nf) A s.heap H1 locs1 := ⟨by rw [← ht]; exact hI1, hS⟩
    obtain ⟨-, -, -, ⟨o129, o130⟩, ⟨o131, o132⟩, -, -, -, -, o133, -, -⟩ := id c128
    clear hpost hI1 hS ht hWt
    revert hI; generalize H1 = H; generalize locs1 = locs; intro hI
    refine lv_istore_n (lv' := [(3, .int z125), (0, .ref (a 19)), (1, .int x1), (2, .int x2)]) hx hb d_In_decode_9 rfl hl (by decide) rfl (fun ls hl => ?_)
    refine lv_aload_n hx hb d_In_decode_10 rfl (lv_at hl 1 rfl) ?_
    refine sv_gete (C := "StoryMachine$Instruction") (T := T_In) (N := 11) hx hb hts in_In hown hK hI 19 kC_19 rfl 4 (by decide) (hts _ mw_226) rfl d_In_decode_11 (fun z134 hz134 => ?_)
    refine sn_iconst hx hb d_In_decode_14 (by decide) (fun z135 hz135 => ?_)
    refine sn_icmp_ne (tgt := 38) hx hb d_In_decode_15 (by decide) (fun b136 => ?_) (fun b136 => ?_)
    · exact j38 _ _ _ z125 t_li126 t_op127 hI c128 (by omega) (by omega) (lv_sub hl [1, 2, 3, 0] rfl)
    · refine lv_aload_n hx hb d_In_decode_18 rfl (lv_at hl 1 rfl) ?_
      refine sv_gete (C := "StoryMachine$Instruction") (T := T_In) (N := 11) hx hb hts in_In hown hK hI 19 kC_19 rfl 5 (by decide) (hts _ mw_228) rfl d_In_decode_19 (fun z137 hz137 => ?_)
      refine sn_iconst hx hb d_In_decode_22 (by decide) (fun z138 hz138 => ?_)
      refine sn_icmp_ne (tgt := 38) hx hb d_In_decode_23 (by decide) (fun b139 => ?_) (fun b139 => ?_)
      · exact j38 _ _ _ z125 t_li126 t_op127 hI c128 (by omega) (by omega) (lv_sub hl [1, 2, 3, 0] rfl)
      · refine lv_iload_n hx hb d_In_decode_26 rfl (lv_at hl 3 rfl) ?_
        refine sn_if_ne (tgt := 38) hx hb d_In_decode_27 (by decide) (fun b140 => ?_) (fun b140 => ?_)
        · exact j38 _ _ _ z125 t_li126 t_op127 hI c128 (by omega) (by omega) (lv_sub hl [1, 2, 3, 0] rfl)
        · refine W.widen (k := 0) (n := 0) (Nat.le_of_ble_eq_true rfl) (Nat.le_of_ble_eq_true rfl) ?_
          subst hZ
          exact tz_thrown (tth_In_UnsupportedOperationException hx hb hfl hown hts (fun U hU hW => (hst _ _ hI.2 U hU hW).1) (by rw [hml]; exact hl.1) d_In_decode_30 d_In_decode_33 d_In_decode_34 d_In_decode_37 (tx_noH B (hts _ mw_499) _) (Nat.le_of_ble_eq_true rfl) (Nat.le_of_ble_eq_true rfl) (Nat.le_of_ble_eq_true rfl) (Nat.le_of_ble_eq_true rfl) (fun t ce hW hz hk hce hcl hvm => ⟨⟨⟨fun v9 hv9 => (by cases hv9), fun x9 hx9 => by cases hx9; exact (Or.inr (Or.inr (⟨t_li126, t_op127, ⟨ce, hce, hcl, hvm⟩, c128, by omega, by omega, by omega, by omega, sh_kept hI.1 hk⟩)))⟩, ta_thrown hI.2 hz hk⟩, _, rfl⟩) hI.2.2.2 hlocks)
  · rcases hpost.2 _ rfl with ⟨t_li141, t_op142, hex, c143, hI1⟩
    have hI : sI (dC, dI) vcl cI cJ (gsC a he dp co t_li141 t_op142 wd tl lc fo sf lf nf) A s.heap H1 locs1 := ⟨by rw [← ht]; exact hI1, hS⟩
    obtain ⟨-, -, -, ⟨o144, o145⟩, ⟨o146, o147⟩, -, -, -, -, o148, -, -⟩ := id c143
    refine tz_widen (k := 1) (n := 6) (Nat.le_of_ble_eq_true rfl) (Nat.le_of_ble_eq_true rfl) ?_
    subst hZ
    exact tz_leave (tx_noH B (hts _ mw_499) _) (fun t9 ht9 hW9 => ⟨⟨fun v9 hv9 => (by cases hv9), fun x9 hx9 => by cases hx9; exact (Or.inl ⟨he, co, t_li141, t_op142, fo, ta_exm hex ht ht9 hWt hW9, c143, by rw [ht9]; exact hI.1⟩)⟩, hI.2.F ht9⟩) hI.2.2.2 hlocks
abbrev q_En_startAt (dC : Nat → ClassId) (dI : Nat → Nat → Nat) (cI cJ : ClassId) (a : Nat → Nat) (he dp co li op wd tl lc fo : Int) (sf lf nf : Nat → Int32) (x1 : Int32) : Outcome → State → Prop := fun o t => (∀ v, o = .returned v → ((∃ (he_ dp_ tl_ : Int) (nf_ : Nat → Int32), v = none ∧ okC he_ dp_ co li op wd tl_ lc fo sf lf nf_ ∧ (he_ ≤ 0) ∧ (dp_ ≤ 0) ∧ (tl_ ≤ 0) ∧ sh_I (dC, dI) vcl cI cJ (gsC a he_ dp_ co li op wd tl_ lc fo sf lf nf_) t.heap))) ∧ (∀ x, o = .threw x → (False))
def rm_En_startAt : Room := { frames := 1, cells := 0, slots := 0, locals := 20 }
set_option maxHeartbeats 4000000 in
set_option maxRecDepth 100000 in
theorem c_En_startAt (l : Launch) (hfl : l.flags = pinnedFlags ++ [noTraceFlag]) (dC : Nat → ClassId) (dI : Nat → Nat → Nat) (cI cJ : ClassId) (a : Nat → Nat) (sz : Nat) (he dp co li op wd tl lc fo : Int) (sf lf nf : Nat → Int32) (x1 : Int32) (hok : okC he dp co li op wd tl lc fo sf lf nf) : tz_Met l ⟨"StoryMachine$Engine", "startAt", "(I)V"⟩ tw_tbl rm_En_startAt (tzP (dC, dI) vcl cI cJ (gsC a he dp co li op wd tl lc fo sf lf nf) a (adC a) [.ref (a 5), .int x1] sz) (tq_Q (q_En_startAt dC dI cI cJ a he dp co li op wd tl lc fo sf lf nf x1) (ga (adC a) sz)) 0 0 0 0 (ga (adC a) sz) := by
  refine tz_ofW (cc := prog_4_method_2_code) (maxL := 2) (ret := none) (by decide) (tx_isM mw_461) ?_
  intro p e s m args below meth c s₁ B hml hv
  obtain ⟨rfl, hsz, hI0, hK, hst0⟩ := hv
  have hx := B.exec
  have hb := B.bytes
  have hr := B.returns
  have hts := atoms_spec (ws := tw_tbl) B.pre
  have hown : s.vm.findClass "StoryMachine$Engine" = some m.cls := findClass_of_methodNamed B.named
  have hlocks := B.notSynchronized
  subst hsz
  have hst := fun (H : Heap) (locs : List Loc) (hS : va_S (ga (adC a) s.heap.size) s.heap H locs) (U : State) (hU : U.heap = H) (hW : s.WarmedH U.vm) => zS_all adC_map hI0 hst0 hS hU hW
  have hAC : ∀ q ∈ adC a, ga (adC a) s.heap.size q := fun q h => Or.inl h
  have hA0 : ∀ q, s.heap.size ≤ q → ga (adC a) s.heap.size q := fun q h => Or.inr h
  have hI : sI (dC, dI) vcl cI cJ (gsC a he dp co li op wd tl lc fo sf lf nf) (ga (adC a) s.heap.size) s.heap s.heap [] := ⟨hI0, va_S.rf⟩
  clear hI0 hst0
  have hl := lv_entry ([.ref (a 5), .int x1]) (n := 2) (Nat.le_of_ble_eq_true rfl)
  rw [lg_entry_eq]
  generalize (lg_sl ([.ref (a 5), .int x1]) ++ List.replicate (2 - (lg_sl ([.ref (a 5), .int x1])).length) Slot.unset).toArray = ls at hl ⊢
  have hl : lv_has ls 2 [(0, .ref (a 5)), (1, .int x1)] := hl
  generalize hZ : tz_MQ below (tq_Q (q_En_startAt dC dI cI cJ a he dp co li op wd tl lc fo sf lf nf x1) (ga (adC a) s.heap.size)) ([.ref (a 5), .int x1] : List Value).toArray s 0 0 0 0 (ga (adC a) s.heap.size) = Z
  obtain ⟨A, hAe⟩ : ∃ A, A = ga (adC a) s.heap.size := ⟨_, rfl⟩
  rw [← hAe] at hst hAC hA0 hI hZ
  refine sv_start hI (fun H locs hI => ?_)
  obtain ⟨⟨o1, o2⟩, ⟨o3, o4⟩, ⟨o5, o6⟩, ⟨o7, o8⟩, ⟨o9, o10⟩, ⟨o11, o12⟩, ⟨o13, o14⟩, ⟨o15, o16⟩, ⟨o17, o18⟩, o19, -, -⟩ := id hok
  have gx1 := sn_rng x1
  refine lv_aload_n hx hb d_En_startAt_0 rfl (lv_at hl 0 rfl) ?_
  refine lv_iload_n hx hb d_En_startAt_1 rfl (lv_at hl 1 rfl) ?_
  refine sv_put (C := "StoryMachine$Engine") (T := T_En) (N := 15) (ty := .int) hx hb hts in_En t_En tk_En nm_En hown hK (sh_in adC_map hAC) hI 5 kC_5 rfl 11 (by decide) (hts _ mw_273) rfl (by decide +kernel) rfl rfl (Nat.le_of_ble_eq_true rfl) (by omega) (by omega) pC_5_11 d_En_startAt_2 (fun H locs hI => ?_)
  refine lv_aload_n hx hb d_En_startAt_5 rfl (lv_at hl 0 rfl) ?_
  refine sn_iconst hx hb d_En_startAt_6 (by decide) (fun z20 hz20 => ?_)
  refine sv_put (C := "StoryMachine$Engine") (T := T_En) (N := 15) (ty := .boolean) hx hb hts in_En t_En tk_En nm_En hown hK (sh_in adC_map hAC) hI 5 kC_5 rfl 10 (by decide) (hts _ mw_271) rfl (by decide +kernel) (sn_bool (by omega) (by omega)).1 (sn_bool (by omega) (by omega)).2 (Nat.le_of_ble_eq_true rfl) (by omega) (by omega) pC_5_10 d_En_startAt_7 (fun H locs hI => ?_)
  refine lv_aload_n hx hb d_En_startAt_10 rfl (lv_at hl 0 rfl) ?_
  refine sn_iconst hx hb d_En_startAt_11 (by decide) (fun z21 hz21 => ?_)
  refine sv_put (C := "StoryMachine$Engine") (T := T_En) (N := 15) (ty := .int) hx hb hts in_En t_En tk_En nm_En hown hK (sh_in adC_map hAC) hI 5 kC_5 rfl 12 (by decide) (hts _ mw_275) rfl (by decide +kernel) rfl rfl (Nat.le_of_ble_eq_true rfl) (by omega) (by omega) pC_5_12 d_En_startAt_12 (fun H locs hI => ?_)
  refine lv_aload_n hx hb d_En_startAt_15 rfl (lv_at hl 0 rfl) ?_
  refine sn_iconst hx hb d_En_startAt_16 (by decide) (fun z22 hz22 => ?_)
  refine sv_put (C := "StoryMachine$Engine") (T := T_En) (N := 15) (ty := .int) hx hb hts in_En t_En tk_En nm_En hown hK (sh_in adC_map hAC) hI 5 kC_5 rfl 14 (by decide) (hts _ mw_278) rfl (by decide +kernel) rfl rfl (Nat.le_of_ble_eq_true rfl) (by omega) (by omega) pC_5_14 d_En_startAt_17 (fun H locs hI => ?_)
  refine lv_aload_n hx hb d_En_startAt_20 rfl (lv_at hl 0 rfl) ?_
  refine sv_getr (C := "StoryMachine$Engine") (T := T_En) (N := 15) hx hb hts in_En hown hK hI 5 kC_5 rfl 3 (by decide) (hts _ mw_264) rfl d_En_startAt_21 ?_
  refine sn_iconst hx hb d_En_startAt_24 (by decide) (fun z23 hz23 => ?_)
  refine sv_put (C := "StoryMachine$Printer") (T := T_Pr) (N := 5) (ty := .int) hx hb hts in_Pr t_Pr tk_Pr nm_Pr hown hK (sh_in adC_map hAC) hI 4 kC_4 rfl 2 (by decide) (hts _ mw_117) rfl (by decide +kernel) rfl rfl (Nat.le_of_ble_eq_true rfl) (by omega) (by omega) pC_4_2 d_En_startAt_25 (fun H locs hI => ?_)
  refine lv_aload_n hx hb d_En_startAt_28 rfl (lv_at hl 0 rfl) ?_
  refine sv_getr (C := "StoryMachine$Engine") (T := T_En) (N := 15) hx hb hts in_En hown hK hI 5 kC_5 rfl 8 (by decide) (hts _ mw_269) rfl d_En_startAt_29 ?_
  refine sn_iconst hx hb d_En_startAt_32 (by decide) (fun z24 hz24 => ?_)
  refine sv_put (C := "StoryMachine$Aside") (T := T_As) (N := 4) (ty := .boolean) hx hb hts in_As t_As tk_As nm_As hown hK (sh_in adC_map hAC) hI 20 kC_20 rfl 0 (by decide) (hts _ mw_149) rfl (by decide +kernel) (sn_bool (by omega) (by omega)).1 (sn_bool (by omega) (by omega)).2 (Nat.le_of_ble_eq_true rfl) (by omega) (by omega) pC_20_0 d_En_startAt_33 (fun H locs hI => ?_)
  refine lv_aload_n hx hb d_En_startAt_36 rfl (lv_at hl 0 rfl) ?_
  refine sv_getr (C := "StoryMachine$Engine") (T := T_En) (N := 15) hx hb hts in_En hown hK hI 5 kC_5 rfl 2 (by decide) (hts _ mw_263) rfl d_En_startAt_37 ?_
  refine tz_call (A1 := ga (adC a) H.size) (tz_runV (C := "StoryMachine$Routines") (As := []) (rest := []) ⟨hx, hb, hml, hown, hts⟩ (c_Ro_clear l hfl dC dI cI cJ a H.size he dp co li op wd tl lc fo sf lf nf  hok) (tx_cb (n := 0) hts rfl rfl ⟨Nat.le_of_ble_eq_true rfl, Nat.le_of_ble_eq_true rfl⟩ (tx_code.of (hts _ mw_465)) (hts _ mw_4) (by decide +kernel) (hts _ mw_462)) (hts _ mw_463) (hts _ mw_464) ⟨tz_blind, sv_recv (q0 := 3) hts in_Ro hK hI kC_3 rfl, fun U hU hW => ⟨rfl, by rw [hU], by rw [hU]; exact hI.1, va_K.moved hW.alike hK, hst _ _ hI.2 U hU hW⟩⟩ rfl rfl hl.1 rfl (lv_room (Nat.le_of_ble_eq_true rfl)) d_En_startAt_40 ⟨Nat.le_of_ble_eq_true rfl, Nat.le_of_ble_eq_true rfl⟩) hI.2 (fun q _ h => ga_sub hAC hA0 hI.2 q h) (ga_sub hAC hA0 hI.2) (fun v t H1 locs1 ht hWt hpost _ _ hS => ?_) (fun x t H1 locs1 ht hWt hpost _ _ hS => (hpost.2 x rfl).elim)
  rcases hpost.1 _ rfl with ⟨t_he25, t_dp26, f_nf27, hv, c28, c28_0, c28_1, hI1⟩
  cases hv
  have hI : sI (dC, dI) vcl cI cJ (gsC a t_he25 t_dp26 co li op wd tl lc fo sf lf f_nf27) A s.heap H1 locs1 := ⟨by rw [← ht]; exact hI1, hS⟩
  obtain ⟨⟨o29, o30⟩, ⟨o31, o32⟩, -, -, -, -, -, -, -, -, -, -⟩ := id c28
  clear hpost hI1 hS ht hWt
  revert hI; generalize H1 = H; generalize locs1 = locs; intro hI
  refine lv_aload_n hx hb d_En_startAt_43 rfl (lv_at hl 0 rfl) ?_
  refine sv_getr (C := "StoryMachine$Engine") (T := T_En) (N := 15) hx hb hts in_En hown hK hI 5 kC_5 rfl 1 (by decide) (hts _ mw_262) rfl d_En_startAt_44 ?_
  refine tz_call (A1 := ga (adC a) H.size) (tz_runV (C := "StoryMachine$Line") (As := []) (rest := []) ⟨hx, hb, hml, hown, hts⟩ (c_Li_clear l hfl dC dI cI cJ a H.size t_he25 t_dp26 co li op wd tl lc fo sf lf f_nf27  c28) (tx_cb (n := 0) hts rfl rfl ⟨Nat.le_of_ble_eq_true rfl, Nat.le_of_ble_eq_true rfl⟩ (tx_code.of (hts _ mw_469)) (hts _ mw_3) (by decide +kernel) (hts _ mw_466)) (hts _ mw_467) (hts _ mw_468) ⟨tz_blind, sv_recv (q0 := 2) hts in_Li hK hI kC_2 rfl, fun U hU hW => ⟨rfl, by rw [hU], by rw [hU]; exact hI.1, va_K.moved hW.alike hK, hst _ _ hI.2 U hU hW⟩⟩ rfl rfl hl.1 rfl (lv_room (Nat.le_of_ble_eq_true rfl)) d_En_startAt_47 ⟨Nat.le_of_ble_eq_true rfl, Nat.le_of_ble_eq_true rfl⟩) hI.2 (fun q _ h => ga_sub hAC hA0 hI.2 q h) (ga_sub hAC hA0 hI.2) (fun v t H1 locs1 ht hWt hpost _ _ hS => ?_) (fun x t H1 locs1 ht hWt hpost _ _ hS => (hpost.2 x rfl).elim)
  rcases hpost.1 _ rfl with ⟨t_tl33, hv, c34, c34_0, hI1⟩
  cases hv
  have hI : sI (dC, dI) vcl cI cJ (gsC a t_he25 t_dp26 co li op wd t_tl33 lc fo sf lf f_nf27) A s.heap H1 locs1 := ⟨by rw [← ht]; exact hI1, hS⟩
  obtain ⟨-, -, -, -, -, -, ⟨o35, o36⟩, -, -, -, -, -⟩ := id c34
  clear hpost hI1 hS ht hWt
  revert hI; generalize H1 = H; generalize locs1 = locs; intro hI
  subst hZ
  exact tz_ret (W.vret hx hb hr (fun t ht hW => ⟨⟨fun v9 hv9 => by cases hv9; exact (⟨t_he25, t_dp26, t_tl33, f_nf27, rfl, c34, by omega, by omega, by omega, by rw [ht]; exact hI.1⟩), fun x9 hx9 => (by cases hx9)⟩, hI.2.F ht⟩) hI.2.2.2 d_En_startAt_50)
