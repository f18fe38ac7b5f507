/-! Constructors; written by wip/tools/p2law.py. -/
set_option maxHeartbeats 4000000 in
set_option maxRecDepth 100000 in
theorem c_As_init (l : Launch) (hfl : l.flags = pinnedFlags ++ [noTraceFlag]) (dC : Nat → ClassId) (dI : Nat → Nat → Nat) (cI : ClassId) (h0 : Nat) (sz : Nat) : tx_Met l ⟨"StoryMachine$Aside", "<init>", "()V"⟩ tw_tbl ({ frames := 2, cells := 9, slots := 778, locals := 60 }) (tq_P (dC, dI) vcl [.ref h0] sz [(h0, .inr (10, [.int 0, .null, .null, .int 0]))] [(cI, .int)]) (tq_Q (fun o t => o = .returned none ∧ ∃ (q5 n9_q8 q16 n20_q7 n20_q15 n20_q23 n20_q31 n20_q39 n20_q48 : Nat), va_P (dC, dI) vcl [(h0, .inr (10, [.int 0, .ref q5, .ref q16, .int 0])), (q5, .inr (1, [.ref n9_q8])), (n9_q8, .inl (cI, 512, .inl (fun _ => 0))), (q16, .inr (3, [.ref n20_q7, .int 0, .int 0, .ref n20_q15, .ref n20_q23, .ref n20_q31, .ref n20_q39, .ref n20_q48])), (n20_q7, .inl (cI, 48, .inl (fun _ => 0))), (n20_q15, .inl (cI, 11, .inl (fun _ => 0))), (n20_q23, .inl (cI, 11, .inl (fun _ => 0))), (n20_q31, .inl (cI, 11, .inl (fun _ => 0))), (n20_q39, .inl (cI, 11, .inl (fun _ => 0))), (n20_q48, .inl (cI, 165, .inl (fun _ => 0)))] t.heap ∧ va_K (dC, dI) vcl [(cI, .int)] t ∧ va_D (va_A [(h0, .inr (10, [.int 0, .null, .null, .int 0]))] sz) [(h0, .inr (10, [.int 0, .ref q5, .ref q16, .int 0])), (q5, .inr (1, [.ref n9_q8])), (n9_q8, .inl (cI, 512, .inl (fun _ => 0))), (q16, .inr (3, [.ref n20_q7, .int 0, .int 0, .ref n20_q15, .ref n20_q23, .ref n20_q31, .ref n20_q39, .ref n20_q48])), (n20_q7, .inl (cI, 48, .inl (fun _ => 0))), (n20_q15, .inl (cI, 11, .inl (fun _ => 0))), (n20_q23, .inl (cI, 11, .inl (fun _ => 0))), (n20_q31, .inl (cI, 11, .inl (fun _ => 0))), (n20_q39, .inl (cI, 11, .inl (fun _ => 0))), (n20_q48, .inl (cI, 165, .inl (fun _ => 0)))]) (va_A [(h0, .inr (10, [.int 0, .null, .null, .int 0]))] sz)) 9 778 (va_A [(h0, .inr (10, [.int 0, .null, .null, .int 0]))] sz) := by
  refine tx_ofW (cc := prog_2_method_1_code) (maxL := 1) (ret := none) (by decide) (tx_isM mw_142) ?_
  intro p e s m args below meth c s₁ B hml hv
  obtain ⟨rfl, hsz, hP, hK, hD0, hst0⟩ := hv
  have hx := B.exec
  have hb := B.bytes
  have hr := B.returns
  have hts := atoms_spec (ws := tw_tbl) B.pre
  have hown : s.vm.findClass "StoryMachine$Aside" = some m.cls := findClass_of_methodNamed B.named
  have hlocks := B.notSynchronized
  have hin : meth.name = "<init>" := (name_of_methodNamed B.named B.method).1
  subst hsz
  have hD := hD0.self (sz := s.heap.size)
  have hst := fun (H : Heap) (locs : List Loc) (hS : va_S (va_A [(h0, .inr (10, [.int 0, .null, .null, .int 0]))] s.heap.size) s.heap H locs) (U : State) (hU : U.heap = H) (hW : s.WarmedH U.vm) => ts_keep hW (fun q cell h1 h2 => by rw [hU]; exact ts_va hP hS q cell h1 h2) hst0
  generalize hAe : va_A [(h0, .inr (10, [.int 0, .null, .null, .int 0]))] s.heap.size = A at hD hst ⊢
  have hA : ∀ q : Nat, s.heap.size ≤ q → A q := fun q h => by rw [← hAe]; exact Or.inr h
  have hS : va_S A s.heap s.heap [] := va_S.rf
  have hP : va_P (dC, dI) vcl [(h0, .inr (10, [.int 0, .null, .null, .int 0]))] s.heap := hP
  have hl := lv_entry ([.ref h0]) (n := 1) (Nat.le_of_ble_eq_true rfl)
  rw [lg_entry_eq]
  generalize (lg_sl ([.ref h0]) ++ List.replicate (1 - (lg_sl ([.ref h0])).length) Slot.unset).toArray = ls at hl ⊢
  have hl : lv_has ls 1 [(0, .ref h0)] := hl
  refine lv_aload_n hx hb d_As_init_0 rfl (lv_at hl 0 rfl) ?_
  refine W.objInit hx hb hown (hts _ mw_143) (hts _ mw_34) (hts _ mw_35) rfl (by rw [hml]; exact hl.1) rfl d_As_init_1 (Nat.le_of_ble_eq_true rfl) (Nat.le_of_ble_eq_true rfl) ?_
  refine W.eq (g2 := F0 m 4 ls []) rfl ?_
  refine lv_aload_n hx hb d_As_init_4 rfl (lv_at hl 0 rfl) ?_
  refine va_new (ci := 1) (fs := [.null]) (C := "StoryMachine$Memory") (T := T_Me) (N := 1) hx hb hts in_Me t_Me tk_Me hown (hts _ mw_144) (hts _ mw_37) (hts _ mw_2) hK hP hD hS hA rfl (fun j hj => ta_dec (f := fun j => defaultValue (t_Me j)) (g := vp_V [.null]) (by decide +kernel) j hj) (Nat.le_of_ble_eq_true rfl) (Nat.le_of_ble_eq_true rfl) d_As_init_5 (fun q5 H hP hD hS => ?_)
  have hP : va_P (dC, dI) vcl [(h0, .inr (10, [.int 0, .null, .null, .int 0])), (q5, .inr (1, [.null]))] H := hP
  have hD : va_D A [(h0, .inr (10, [.int 0, .null, .null, .int 0])), (q5, .inr (1, [.null]))] := hD
  refine lv_dup hx hb d_As_init_8 rfl ?_
  have hPc := hP.sub (ws' := [(q5, .inr (1, [.null]))]) [1] rfl
  have hDc := hD.sub (ws' := [(q5, .inr (1, [.null]))]) [1] (by decide) rfl
  have hFc := va_free (wc := [(q5, .inr (1, [.null]))]) hD hS hA [1] rfl
  refine tx_callK (A1 := va_A [(q5, .inr (1, [.null]))] H.size) (tx_runIN (As := []) (rest := [.ref q5, .ref h0]) ⟨hx, hb, hml, hown, hts⟩ (c_Me_init l hfl dC dI cI q5 H.size) (tx_cn (n := 0) hts rfl rfl ⟨Nat.le_of_ble_eq_true rfl, Nat.le_of_ble_eq_true rfl⟩ (hts _ mw_2) (by decide +kernel) (hts _ mw_145)) (hts _ mw_40) rfl (hts _ mw_39) ⟨tq_blind, fun U hU hW => ⟨rfl, by rw [hU], by rw [hU]; exact hPc, va_K.moved hW.alike hK, hDc.weaken (fun _ _ _ _ => trivial), hst _ _ hS U hU hW⟩⟩ rfl rfl hl.1 rfl (lv_room (Nat.le_of_ble_eq_true rfl)) d_As_init_9 ⟨Nat.le_of_ble_eq_true rfl, Nat.le_of_ble_eq_true rfl⟩) hS (fun q _ h => hFc q h) hFc (fun v t H9 locs ht hWt hpost hz1 hk1 hS => ?_) (fun x t H1 locs ht hWt hpost hz1 hk1 hS => by cases hpost.1)
  obtain ⟨ho, n9_q8, hP1, hK1, hD1⟩ := hpost
  cases ho
  rw [ht] at hP1
  obtain ⟨hP, hD⟩ := va_join (wr := [(h0, .inr (10, [.int 0, .null, .null, .int 0]))]) (w1 := [(q5, .inr (1, [.ref n9_q8])), (n9_q8, .inl (cI, 512, .inl (fun _ => 0)))]) hP hD [1] [0] rfl rfl (by decide) (by decide) hk1 hFc hP1 hD1
  have hP : va_P (dC, dI) vcl [(h0, .inr (10, [.int 0, .null, .null, .int 0])), (q5, .inr (1, [.ref n9_q8])), (n9_q8, .inl (cI, 512, .inl (fun _ => 0)))] H9 := hP
  have hD : va_D A [(h0, .inr (10, [.int 0, .null, .null, .int 0])), (q5, .inr (1, [.ref n9_q8])), (n9_q8, .inl (cI, 512, .inl (fun _ => 0)))] := hD
  refine va_putF (D := (dC, dI)) (ci := 10) (v := .ref q5) (ty := .object "StoryMachine$Memory") (C := "StoryMachine$Aside") (T := T_As) (N := 4) hx hb hts in_As t_As tk_As nm_As hown hK hP hD hS 0 rfl rfl 1 (by decide) (hts _ mw_150) (fun _ h9 => h9) rfl hin rfl (by decide +kernel) rfl rfl (Nat.le_of_ble_eq_true rfl) d_As_init_12 (fun H locs hP hD hS => ?_)
  have hP : va_P (dC, dI) vcl [(h0, .inr (10, [.int 0, .ref q5, .null, .int 0])), (q5, .inr (1, [.ref n9_q8])), (n9_q8, .inl (cI, 512, .inl (fun _ => 0)))] H := hP
  have hD : va_D A [(h0, .inr (10, [.int 0, .ref q5, .null, .int 0])), (q5, .inr (1, [.ref n9_q8])), (n9_q8, .inl (cI, 512, .inl (fun _ => 0)))] := hD
  refine lv_aload_n hx hb d_As_init_15 rfl (lv_at hl 0 rfl) ?_
  refine va_new (ci := 3) (fs := [.null, .int 0, .int 0, .null, .null, .null, .null, .null]) (C := "StoryMachine$Routines") (T := T_Ro) (N := 8) hx hb hts in_Ro t_Ro tk_Ro hown (hts _ mw_146) (hts _ mw_75) (hts _ mw_4) hK hP hD hS hA rfl (fun j hj => ta_dec (f := fun j => defaultValue (t_Ro j)) (g := vp_V [.null, .int 0, .int 0, .null, .null, .null, .null, .null]) (by decide +kernel) j hj) (Nat.le_of_ble_eq_true rfl) (Nat.le_of_ble_eq_true rfl) d_As_init_16 (fun q16 H hP hD hS => ?_)
  have hP : va_P (dC, dI) vcl [(h0, .inr (10, [.int 0, .ref q5, .null, .int 0])), (q5, .inr (1, [.ref n9_q8])), (n9_q8, .inl (cI, 512, .inl (fun _ => 0))), (q16, .inr (3, [.null, .int 0, .int 0, .null, .null, .null, .null, .null]))] H := hP
  have hD : va_D A [(h0, .inr (10, [.int 0, .ref q5, .null, .int 0])), (q5, .inr (1, [.ref n9_q8])), (n9_q8, .inl (cI, 512, .inl (fun _ => 0))), (q16, .inr (3, [.null, .int 0, .int 0, .null, .null, .null, .null, .null]))] := hD
  refine lv_dup hx hb d_As_init_19 rfl ?_
  have hPc := hP.sub (ws' := [(q16, .inr (3, [.null, .int 0, .int 0, .null, .null, .null, .null, .null]))]) [3] rfl
  have hDc := hD.sub (ws' := [(q16, .inr (3, [.null, .int 0, .int 0, .null, .null, .null, .null, .null]))]) [3] (by decide) rfl
  have hFc := va_free (wc := [(q16, .inr (3, [.null, .int 0, .int 0, .null, .null, .null, .null, .null]))]) hD hS hA [3] rfl
  refine tx_callK (A1 := va_A [(q16, .inr (3, [.null, .int 0, .int 0, .null, .null, .null, .null, .null]))] H.size) (tx_runIN (As := []) (rest := [.ref q16, .ref h0]) ⟨hx, hb, hml, hown, hts⟩ (c_Ro_init l hfl dC dI cI q16 H.size) (tx_cn (n := 0) hts rfl rfl ⟨Nat.le_of_ble_eq_true rfl, Nat.le_of_ble_eq_true rfl⟩ (hts _ mw_4) (by decide +kernel) (hts _ mw_147)) (hts _ mw_78) rfl (hts _ mw_77) ⟨tq_blind, fun U hU hW => ⟨rfl, by rw [hU], by rw [hU]; exact hPc, va_K.moved hW.alike hK, hDc.weaken (fun _ _ _ _ => trivial), hst _ _ hS U hU hW⟩⟩ rfl rfl hl.1 rfl (lv_room (Nat.le_of_ble_eq_true rfl)) d_As_init_20 ⟨Nat.le_of_ble_eq_true rfl, Nat.le_of_ble_eq_true rfl⟩) hS (fun q _ h => hFc q h) hFc (fun v t H20 locs ht hWt hpost hz1 hk1 hS => ?_) (fun x t H1 locs ht hWt hpost hz1 hk1 hS => by cases hpost.1)
  obtain ⟨ho, n20_q7, n20_q15, n20_q23, n20_q31, n20_q39, n20_q48, hP1, hK1, hD1⟩ := hpost
  cases ho
  rw [ht] at hP1
  obtain ⟨hP, hD⟩ := va_join (wr := [(h0, .inr (10, [.int 0, .ref q5, .null, .int 0])), (q5, .inr (1, [.ref n9_q8])), (n9_q8, .inl (cI, 512, .inl (fun _ => 0)))]) (w1 := [(q16, .inr (3, [.ref n20_q7, .int 0, .int 0, .ref n20_q15, .ref n20_q23, .ref n20_q31, .ref n20_q39, .ref n20_q48])), (n20_q7, .inl (cI, 48, .inl (fun _ => 0))), (n20_q15, .inl (cI, 11, .inl (fun _ => 0))), (n20_q23, .inl (cI, 11, .inl (fun _ => 0))), (n20_q31, .inl (cI, 11, .inl (fun _ => 0))), (n20_q39, .inl (cI, 11, .inl (fun _ => 0))), (n20_q48, .inl (cI, 165, .inl (fun _ => 0)))]) hP hD [3] [0, 1, 2] rfl rfl (by decide) (by decide) hk1 hFc hP1 hD1
  have hP : va_P (dC, dI) vcl [(h0, .inr (10, [.int 0, .ref q5, .null, .int 0])), (q5, .inr (1, [.ref n9_q8])), (n9_q8, .inl (cI, 512, .inl (fun _ => 0))), (q16, .inr (3, [.ref n20_q7, .int 0, .int 0, .ref n20_q15, .ref n20_q23, .ref n20_q31, .ref n20_q39, .ref n20_q48])), (n20_q7, .inl (cI, 48, .inl (fun _ => 0))), (n20_q15, .inl (cI, 11, .inl (fun _ => 0))), (n20_q23, .inl (cI, 11, .inl (fun _ => 0))), (n20_q31, .inl (cI, 11, .inl (fun _ => 0))), (n20_q39, .inl (cI, 11, .inl (fun _ => 0))), (n20_q48, .inl (cI, 165, .inl (fun _ => 0)))] H20 := hP
  have hD : va_D A [(h0, .inr (10, [.int 0, .ref q5, .null, .int 0])), (q5, .inr (1, [.ref n9_q8])), (n9_q8, .inl (cI, 512, .inl (fun _ => 0))), (q16, .inr (3, [.ref n20_q7, .int 0, .int 0, .ref n20_q15, .ref n20_q23, .ref n20_q31, .ref n20_q39, .ref n20_q48])), (n20_q7, .inl (cI, 48, .inl (fun _ => 0))), (n20_q15, .inl (cI, 11, .inl (fun _ => 0))), (n20_q23, .inl (cI, 11, .inl (fun _ => 0))), (n20_q31, .inl (cI, 11, .inl (fun _ => 0))), (n20_q39, .inl (cI, 11, .inl (fun _ => 0))), (n20_q48, .inl (cI, 165, .inl (fun _ => 0)))] := hD
  refine va_putF (D := (dC, dI)) (ci := 10) (v := .ref q16) (ty := .object "StoryMachine$Routines") (C := "StoryMachine$Aside") (T := T_As) (N := 4) hx hb hts in_As t_As tk_As nm_As hown hK hP hD hS 0 rfl rfl 2 (by decide) (hts _ mw_151) (fun _ h9 => h9) rfl hin rfl (by decide +kernel) rfl rfl (Nat.le_of_ble_eq_true rfl) d_As_init_23 (fun H locs hP hD hS => ?_)
  have hP : va_P (dC, dI) vcl [(h0, .inr (10, [.int 0, .ref q5, .ref q16, .int 0])), (q5, .inr (1, [.ref n9_q8])), (n9_q8, .inl (cI, 512, .inl (fun _ => 0))), (q16, .inr (3, [.ref n20_q7, .int 0, .int 0, .ref n20_q15, .ref n20_q23, .ref n20_q31, .ref n20_q39, .ref n20_q48])), (n20_q7, .inl (cI, 48, .inl (fun _ => 0))), (n20_q15, .inl (cI, 11, .inl (fun _ => 0))), (n20_q23, .inl (cI, 11, .inl (fun _ => 0))), (n20_q31, .inl (cI, 11, .inl (fun _ => 0))), (n20_q39, .inl (cI, 11, .inl (fun _ => 0))), (n20_q48, .inl (cI, 165, .inl (fun _ => 0)))] H := hP
  have hD : va_D A [(h0, .inr (10, [.int 0, .ref q5, .ref q16, .int 0])), (q5, .inr (1, [.ref n9_q8])), (n9_q8, .inl (cI, 512, .inl (fun _ => 0))), (q16, .inr (3, [.ref n20_q7, .int 0, .int 0, .ref n20_q15, .ref n20_q23, .ref n20_q31, .ref n20_q39, .ref n20_q48])), (n20_q7, .inl (cI, 48, .inl (fun _ => 0))), (n20_q15, .inl (cI, 11, .inl (fun _ => 0))), (n20_q23, .inl (cI, 11, .inl (fun _ => 0))), (n20_q31, .inl (cI, 11, .inl (fun _ => 0))), (n20_q39, .inl (cI, 11, .inl (fun _ => 0))), (n20_q48, .inl (cI, 165, .inl (fun _ => 0)))] := hD
  have hP9 := hP.sub (ws' := [(h0, .inr (10, [.int 0, .ref q5, .ref q16, .int 0])), (q5, .inr (1, [.ref n9_q8])), (n9_q8, .inl (cI, 512, .inl (fun _ => 0))), (q16, .inr (3, [.ref n20_q7, .int 0, .int 0, .ref n20_q15, .ref n20_q23, .ref n20_q31, .ref n20_q39, .ref n20_q48])), (n20_q7, .inl (cI, 48, .inl (fun _ => 0))), (n20_q15, .inl (cI, 11, .inl (fun _ => 0))), (n20_q23, .inl (cI, 11, .inl (fun _ => 0))), (n20_q31, .inl (cI, 11, .inl (fun _ => 0))), (n20_q39, .inl (cI, 11, .inl (fun _ => 0))), (n20_q48, .inl (cI, 165, .inl (fun _ => 0)))]) [0, 1, 2, 3, 4, 5, 6, 7, 8, 9] rfl
  have hD9 := hD.sub (ws' := [(h0, .inr (10, [.int 0, .ref q5, .ref q16, .int 0])), (q5, .inr (1, [.ref n9_q8])), (n9_q8, .inl (cI, 512, .inl (fun _ => 0))), (q16, .inr (3, [.ref n20_q7, .int 0, .int 0, .ref n20_q15, .ref n20_q23, .ref n20_q31, .ref n20_q39, .ref n20_q48])), (n20_q7, .inl (cI, 48, .inl (fun _ => 0))), (n20_q15, .inl (cI, 11, .inl (fun _ => 0))), (n20_q23, .inl (cI, 11, .inl (fun _ => 0))), (n20_q31, .inl (cI, 11, .inl (fun _ => 0))), (n20_q39, .inl (cI, 11, .inl (fun _ => 0))), (n20_q48, .inl (cI, 165, .inl (fun _ => 0)))]) [0, 1, 2, 3, 4, 5, 6, 7, 8, 9] (by decide) rfl
  refine W.widen (k := 9) (n := 778) (Nat.le_of_ble_eq_true rfl) (Nat.le_of_ble_eq_true rfl) ?_
  exact tx_ret (W.vret hx hb hr (fun t ht hW => ⟨⟨rfl, q5, n9_q8, q16, n20_q7, n20_q15, n20_q23, n20_q31, n20_q39, n20_q48, by rw [ht]; exact hP9, va_K.moved hW.alike hK, hAe ▸ hD9⟩, hS.F ht⟩) (hS.2.2) d_As_init_26)
