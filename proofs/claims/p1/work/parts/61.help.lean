/-! Contracts; written by wip/tools/p1.py. -/
set_option maxHeartbeats 4000000 in
set_option maxRecDepth 100000 in
theorem c_La_poke (l : Launch) (hfl : l.flags = pinnedFlags ++ [noTraceFlag]) (dC : Nat → ClassId) (dI : Nat → Nat → Nat) (cI cJ : ClassId) (h0 q1 q2 q3 q4 q5 q6 : Nat) (p0 : Int32) (p1 : Int64) (p2 : Int32) (sz : Nat) : tx_Met l ⟨"StoryMachineLaw", "poke", "(LStoryMachine;IJI)I"⟩ tw_tbl ({ frames := 8, cells := 1, slots := 6, locals := 180 }) (tq_P (dC, dI) vcl [.ref h0, .int p0, .long p1, .int p2] sz [(h0, .inr (0, [.ref q1, .ref q2, .ref q3, .ref q4, .ref q5])), (q1, .inr (1, [.ref q6])), (q6, .inl (cI, 512, .inl (fun _ => 0)))] [(cI, .int), (cJ, .long)]) (tq_Q (fun o t => ((p2 < 1 ∨ 8 < p2 ∨ p0 < 0 ∨ ¬ p0 ≤ 512 - p2) → o = .returned (some (.int 1))) ∧ (¬ (p2 < 1 ∨ 8 < p2 ∨ p0 < 0 ∨ ¬ p0 ≤ 512 - p2) → o = .returned (some (.int 0)))) (va_A [(h0, .inr (0, [.ref q1, .ref q2, .ref q3, .ref q4, .ref q5])), (q1, .inr (1, [.ref q6])), (q6, .inl (cI, 512, .inl (fun _ => 0)))] sz)) 1 6 (va_A [(h0, .inr (0, [.ref q1, .ref q2, .ref q3, .ref q4, .ref q5])), (q1, .inr (1, [.ref q6])), (q6, .inl (cI, 512, .inl (fun _ => 0)))] sz) := by
  refine tx_ofW (cc := method_3_code) (maxL := 6) (ret := (some .int)) (by decide) (tx_isWM mw_348) ?_
  intro p e s m args below meth c s₁ B hml hv
  obtain ⟨rfl, hsz, hP, hK, hD0, hst0⟩ := hv
  have hx := B.exec
  have hb := B.bytes
  have hr := B.returns
  have hts := atoms_spec (ws := tw_tbl) B.pre
  have hown : s.vm.findClass "StoryMachineLaw" = some m.cls := findClass_of_methodNamed B.named
  have hlocks := B.notSynchronized
  subst hsz
  have hD := hD0.self (sz := s.heap.size)
  have hst := fun (H : Heap) (locs : List Loc) (hS : va_S (va_A [(h0, .inr (0, [.ref q1, .ref q2, .ref q3, .ref q4, .ref q5])), (q1, .inr (1, [.ref q6])), (q6, .inl (cI, 512, .inl (fun _ => 0)))] s.heap.size) s.heap H locs) (U : State) (hU : U.heap = H) (hW : s.WarmedH U.vm) => ts_keep hW (fun q cell h1 h2 => by rw [hU]; exact ts_va hP hS q cell h1 h2) hst0
  generalize hAe : va_A [(h0, .inr (0, [.ref q1, .ref q2, .ref q3, .ref q4, .ref q5])), (q1, .inr (1, [.ref q6])), (q6, .inl (cI, 512, .inl (fun _ => 0)))] s.heap.size = A at hD hst ⊢
  have hA : ∀ q : Nat, s.heap.size ≤ q → A q := fun q h => by rw [← hAe]; exact Or.inr h
  have hS : va_S A s.heap s.heap [] := va_S.rf
  have hP : va_P (dC, dI) vcl [(h0, .inr (0, [.ref q1, .ref q2, .ref q3, .ref q4, .ref q5])), (q1, .inr (1, [.ref q6])), (q6, .inl (cI, 512, .inl (fun _ => 0)))] s.heap := hP
  have hl := lv_entry ([.ref h0, .int p0, .long p1, .int p2]) (n := 6) (Nat.le_of_ble_eq_true rfl)
  rw [lg_entry_eq]
  generalize (lg_sl ([.ref h0, .int p0, .long p1, .int p2]) ++ List.replicate (6 - (lg_sl ([.ref h0, .int p0, .long p1, .int p2])).length) Slot.unset).toArray = ls at hl ⊢
  have hl : lv_has ls 6 [(0, .ref h0), (1, .int p0), (2, .long p1), (4, .int p2)] := hl
  refine lv_aload_n hx hb d_La_poke_0 rfl (lv_at hl 0 rfl) ?_
  refine lv_iload_n hx hb d_La_poke_1 rfl (lv_at hl 1 rfl) ?_
  refine lv_lload_n hx hb d_La_poke_2 rfl (lv_at hl 2 rfl) ?_
  refine lv_iload hx hb d_La_poke_3 (lv_at hl 3 rfl) ?_
  have hPc := hP.sub (ws' := [(h0, .inr (0, [.ref q1, .ref q2, .ref q3, .ref q4, .ref q5])), (q1, .inr (1, [.ref q6])), (q6, .inl (cI, 512, .inl (fun _ => 0)))]) [0, 1, 2] rfl
  have hDc := hD.sub (ws' := [(h0, .inr (0, [.ref q1, .ref q2, .ref q3, .ref q4, .ref q5])), (q1, .inr (1, [.ref q6])), (q6, .inl (cI, 512, .inl (fun _ => 0)))]) [0, 1, 2] (by decide) rfl
  have hFc := va_free (wc := [(h0, .inr (0, [.ref q1, .ref q2, .ref q3, .ref q4, .ref q5])), (q1, .inr (1, [.ref q6])), (q6, .inl (cI, 512, .inl (fun _ => 0)))]) hD hS hA [0, 1, 2] rfl
  refine tx_callK (A1 := va_A [(h0, .inr (0, [.ref q1, .ref q2, .ref q3, .ref q4, .ref q5])), (q1, .inr (1, [.ref q6])), (q6, .inl (cI, 512, .inl (fun _ => 0)))] s.heap.size) (tx_runV (C := "StoryMachine") (As := [.int p0, .long p1, .int p2]) (rest := []) ⟨hx, hb, hml, hown, hts⟩ (c_SM_poke l hfl dC dI cI h0 q1 q2 q3 q4 q5 q6 (fun _ => 0) p0 p1 p2 s.heap.size) (tx_cb (n := 3) hts rfl rfl ⟨Nat.le_of_ble_eq_true rfl, Nat.le_of_ble_eq_true rfl⟩ (tx_code.of (hts _ mw_353)) (hts _ mw_1) (by decide +kernel) (hts _ mw_350)) (hts _ mw_351) (hts _ mw_352) ⟨tq_blind, ta_recv (q0 := 0) hts in_SM hK hP rfl rfl, fun U hU hW => ⟨rfl, by rw [hU], by rw [hU]; exact hPc, va_K.moved hW.alike (hK.sub (tys' := [(cI, .int)]) [0] rfl), hDc.weaken (fun _ _ _ _ => trivial), hst _ _ hS U hU hW⟩⟩ rfl rfl hl.1 rfl (lv_room (Nat.le_of_ble_eq_true rfl)) d_La_poke_5 ⟨Nat.le_of_ble_eq_true rfl, Nat.le_of_ble_eq_true rfl⟩) hS (fun q _ h => hFc q h) hFc (fun v t H5 locs ht hWt hpost hz1 hk1 hS => ?_) (fun x t H5 locs ht hWt hpost hz1 hk1 hS => ?_)
  · have hgood : ¬ (p2 < 1 ∨ 8 < p2 ∨ p0 < 0 ∨ ¬ p0 ≤ 512 - p2) := fun hb9 => by obtain ⟨x, h3, -⟩ := hpost.1 hb9; cases h3
    have ho := hpost.2 hgood
    cases ho
    have hP1 := ta_nilP (D := (dC, dI)) (cl := vcl) (H := t.heap)
    have hD1 := ta_nilD (A := va_A [(h0, .inr (0, [.ref q1, .ref q2, .ref q3, .ref q4, .ref q5])), (q1, .inr (1, [.ref q6])), (q6, .inl (cI, 512, .inl (fun _ => 0)))] s.heap.size)
    rw [ht] at hP1
    obtain ⟨hP, hD⟩ := va_join (wr := []) (w1 := []) hP hD [0, 1, 2] [] rfl rfl (by decide) (by decide) hk1 hFc hP1 hD1
    have hP : va_P (dC, dI) vcl [] H5 := hP
    have hD : va_D A [] := hD
    refine lv_goto (tgt := 15) hx hb d_La_poke_8 (by decide) ?_
    refine lv_iconst (v := 0) hx hb d_La_poke_15 (by decide) ?_
    refine W.widen (k := 1) (n := 6) (Nat.le_of_ble_eq_true rfl) (Nat.le_of_ble_eq_true rfl) ?_
    exact tx_ret (W.iret (v := 0) hx hb hr (fun t ht hW => ⟨⟨fun h => absurd h hgood, fun _ => rfl⟩, hS.F ht⟩) (hS.2.2) d_La_poke_16)
  · have hbad : p2 < 1 ∨ 8 < p2 ∨ p0 < 0 ∨ ¬ p0 ≤ 512 - p2 := Classical.byContradiction (fun h => by cases (hpost.2 h))
    obtain ⟨x9, hx9, ce, hce, hcl, hvm⟩ := hpost.1 hbad
    cases hx9
    refine tx_catch (own := "StoryMachineLaw") (C := "java/lang/IllegalArgumentException") (X := "java/lang/IllegalArgumentException") (tx_tab B (hts _ mw_348)) (by decide) (by decide) hown (hts _ mw_349) (by rw [← ht]; exact hce) (fun k h => by rw [hvm] at h; cases h) (by rw [← hWt.alike.findClass]; exact hcl) (hts _ mw_356) ?_
    refine lv_astore (lv' := [(5, .ref x), (0, .ref h0), (1, .int p0), (2, .long p1), (4, .int p2)]) hx hb d_La_poke_11 hl (by decide) rfl (fun ls hl => ?_)
    refine lv_iconst (v := 1) hx hb d_La_poke_13 (by decide) ?_
    refine W.widen (k := 1) (n := 6) (Nat.le_of_ble_eq_true rfl) (Nat.le_of_ble_eq_true rfl) ?_
    exact tx_ret (W.iret (v := 1) hx hb hr (fun t ht hW => ⟨⟨fun _ => rfl, fun h => absurd hbad h⟩, hS.F ht⟩) (hS.2.2) d_La_poke_14)
set_option maxHeartbeats 4000000 in
set_option maxRecDepth 100000 in
theorem c_La_peek (l : Launch) (hfl : l.flags = pinnedFlags ++ [noTraceFlag]) (dC : Nat → ClassId) (dI : Nat → Nat → Nat) (cI cJ : ClassId) (h0 q1 q2 q3 q4 q5 q6 : Nat) (p0 : Int32) (q_out : Nat) (sz : Nat) : tx_Met l ⟨"StoryMachineLaw", "peek", "(LStoryMachine;I[J)I"⟩ tw_tbl ({ frames := 8, cells := 1, slots := 6, locals := 180 }) (tq_P (dC, dI) vcl [.ref h0, .int p0, .ref q_out] sz [(h0, .inr (0, [.ref q1, .ref q2, .ref q3, .ref q4, .ref q5])), (q1, .inr (1, [.ref q6])), (q6, .inl (cI, 512, .inl (fun _ => 0))), (q_out, .inl (cJ, 1, .inr (.inl (fun _ => 0))))] [(cI, .int), (cJ, .long)]) (tq_Q (fun o t => ((p0 < 0 ∨ ¬ p0 < 512) → o = .returned (some (.int 1))) ∧ (¬ (p0 < 0 ∨ ¬ p0 < 512) → o = .returned (some (.int 0)) ∧ (∃ fo : Nat → Int64, fo 0 = 0 ∧ va_P (dC, dI) vcl [(q_out, .inl (cJ, 1, .inr (.inl fo)))] t.heap ∧ va_D (va_A [(h0, .inr (0, [.ref q1, .ref q2, .ref q3, .ref q4, .ref q5])), (q1, .inr (1, [.ref q6])), (q6, .inl (cI, 512, .inl (fun _ => 0))), (q_out, .inl (cJ, 1, .inr (.inl (fun _ => 0))))] sz) [(q_out, .inl (cJ, 1, .inr (.inl fo)))]))) (va_A [(h0, .inr (0, [.ref q1, .ref q2, .ref q3, .ref q4, .ref q5])), (q1, .inr (1, [.ref q6])), (q6, .inl (cI, 512, .inl (fun _ => 0))), (q_out, .inl (cJ, 1, .inr (.inl (fun _ => 0))))] sz)) 1 6 (va_A [(h0, .inr (0, [.ref q1, .ref q2, .ref q3, .ref q4, .ref q5])), (q1, .inr (1, [.ref q6])), (q6, .inl (cI, 512, .inl (fun _ => 0))), (q_out, .inl (cJ, 1, .inr (.inl (fun _ => 0))))] sz) := by
  refine tx_ofW (cc := method_4_code) (maxL := 4) (ret := (some .int)) (by decide) (tx_isWM mw_424) ?_
  intro p e s m args below meth c s₁ B hml hv
  obtain ⟨rfl, hsz, hP, hK, hD0, hst0⟩ := hv
  have hx := B.exec
  have hb := B.bytes
  have hr := B.returns
  have hts := atoms_spec (ws := tw_tbl) B.pre
  have hown : s.vm.findClass "StoryMachineLaw" = some m.cls := findClass_of_methodNamed B.named
  have hlocks := B.notSynchronized
  subst hsz
  have hD := hD0.self (sz := s.heap.size)
  have hst := fun (H : Heap) (locs : List Loc) (hS : va_S (va_A [(h0, .inr (0, [.ref q1, .ref q2, .ref q3, .ref q4, .ref q5])), (q1, .inr (1, [.ref q6])), (q6, .inl (cI, 512, .inl (fun _ => 0))), (q_out, .inl (cJ, 1, .inr (.inl (fun _ => 0))))] s.heap.size) s.heap H locs) (U : State) (hU : U.heap = H) (hW : s.WarmedH U.vm) => ts_keep hW (fun q cell h1 h2 => by rw [hU]; exact ts_va hP hS q cell h1 h2) hst0
  generalize hAe : va_A [(h0, .inr (0, [.ref q1, .ref q2, .ref q3, .ref q4, .ref q5])), (q1, .inr (1, [.ref q6])), (q6, .inl (cI, 512, .inl (fun _ => 0))), (q_out, .inl (cJ, 1, .inr (.inl (fun _ => 0))))] s.heap.size = A at hD hst ⊢
  have hA : ∀ q : Nat, s.heap.size ≤ q → A q := fun q h => by rw [← hAe]; exact Or.inr h
  have hS : va_S A s.heap s.heap [] := va_S.rf
  have hP : va_P (dC, dI) vcl [(h0, .inr (0, [.ref q1, .ref q2, .ref q3, .ref q4, .ref q5])), (q1, .inr (1, [.ref q6])), (q6, .inl (cI, 512, .inl (fun _ => 0))), (q_out, .inl (cJ, 1, .inr (.inl (fun _ => 0))))] s.heap := hP
  have hl := lv_entry ([.ref h0, .int p0, .ref q_out]) (n := 4) (Nat.le_of_ble_eq_true rfl)
  rw [lg_entry_eq]
  generalize (lg_sl ([.ref h0, .int p0, .ref q_out]) ++ List.replicate (4 - (lg_sl ([.ref h0, .int p0, .ref q_out])).length) Slot.unset).toArray = ls at hl ⊢
  have hl : lv_has ls 4 [(0, .ref h0), (1, .int p0), (2, .ref q_out)] := hl
  refine lv_aload_n hx hb d_La_peek_0 rfl (lv_at hl 2 rfl) ?_
  refine lv_iconst (v := 0) hx hb d_La_peek_1 (by decide) ?_
  refine lv_aload_n hx hb d_La_peek_2 rfl (lv_at hl 0 rfl) ?_
  refine lv_iload_n hx hb d_La_peek_3 rfl (lv_at hl 1 rfl) ?_
  have hPc := hP.sub (ws' := [(h0, .inr (0, [.ref q1, .ref q2, .ref q3, .ref q4, .ref q5])), (q1, .inr (1, [.ref q6])), (q6, .inl (cI, 512, .inl (fun _ => 0)))]) [0, 1, 2] rfl
  have hDc := hD.sub (ws' := [(h0, .inr (0, [.ref q1, .ref q2, .ref q3, .ref q4, .ref q5])), (q1, .inr (1, [.ref q6])), (q6, .inl (cI, 512, .inl (fun _ => 0)))]) [0, 1, 2] (by decide) rfl
  have hFc := va_free (wc := [(h0, .inr (0, [.ref q1, .ref q2, .ref q3, .ref q4, .ref q5])), (q1, .inr (1, [.ref q6])), (q6, .inl (cI, 512, .inl (fun _ => 0)))]) hD hS hA [0, 1, 2] rfl
  refine tx_callK (A1 := va_A [(h0, .inr (0, [.ref q1, .ref q2, .ref q3, .ref q4, .ref q5])), (q1, .inr (1, [.ref q6])), (q6, .inl (cI, 512, .inl (fun _ => 0)))] s.heap.size) (tx_runV (C := "StoryMachine") (As := [.int p0]) (rest := [.int 0, .ref q_out]) ⟨hx, hb, hml, hown, hts⟩ (c_SM_peek l hfl dC dI cI h0 q1 q2 q3 q4 q5 q6 p0 s.heap.size) (tx_cb (n := 1) hts rfl rfl ⟨Nat.le_of_ble_eq_true rfl, Nat.le_of_ble_eq_true rfl⟩ (tx_code.of (hts _ mw_428)) (hts _ mw_1) (by decide +kernel) (hts _ mw_425)) (hts _ mw_426) (hts _ mw_427) ⟨tq_blind, ta_recv (q0 := 0) hts in_SM hK hP rfl rfl, fun U hU hW => ⟨rfl, by rw [hU], by rw [hU]; exact hPc, va_K.moved hW.alike (hK.sub (tys' := [(cI, .int)]) [0] rfl), hDc.weaken (fun _ _ _ _ => trivial), hst _ _ hS U hU hW⟩⟩ rfl rfl hl.1 rfl (lv_room (Nat.le_of_ble_eq_true rfl)) d_La_peek_4 ⟨Nat.le_of_ble_eq_true rfl, Nat.le_of_ble_eq_true rfl⟩) hS (fun q _ h => hFc q h) hFc (fun v t H4 locs ht hWt hpost hz1 hk1 hS => ?_) (fun x t H4 locs ht hWt hpost hz1 hk1 hS => ?_)
  · have hgood : ¬ (p0 < 0 ∨ ¬ p0 < 512) := fun hb9 => by obtain ⟨x, h3, -⟩ := hpost.1 hb9; cases h3
    have ho := hpost.2 hgood
    cases ho
    have hP1 := ta_nilP (D := (dC, dI)) (cl := vcl) (H := t.heap)
    have hD1 := ta_nilD (A := va_A [(h0, .inr (0, [.ref q1, .ref q2, .ref q3, .ref q4, .ref q5])), (q1, .inr (1, [.ref q6])), (q6, .inl (cI, 512, .inl (fun _ => 0)))] s.heap.size)
    rw [ht] at hP1
    obtain ⟨hP, hD⟩ := va_join (wr := [(q_out, .inl (cJ, 1, .inr (.inl (fun _ => 0))))]) (w1 := []) hP hD [0, 1, 2] [3] rfl rfl (by decide) (by decide) hk1 hFc hP1 hD1
    have hP : va_P (dC, dI) vcl [(q_out, .inl (cJ, 1, .inr (.inl (fun _ => 0))))] H4 := hP
    have hD : va_D A [(q_out, .inl (cJ, 1, .inr (.inl (fun _ => 0))))] := hD
    refine lv_i2l hx hb d_La_peek_7 rfl ?_
    refine va_last hx hb hK hP hD hS 0 1 rfl rfl (show ¬ ((0 : Int32) < 0 ∨ 1 ≤ (0 : Int32).toNatClampNeg) by decide) d_La_peek_8 (fun H locs hP hD hS => ?_)
    obtain ⟨f1, hf1⟩ : ∃ z : Nat → Int64, z = vp_updL (fun _ => 0) (Int32.toNatClampNeg (0)) (Int32.toInt64 0) := ⟨_, rfl⟩
    rw [← hf1] at hP hD
    have hP : va_P (dC, dI) vcl [(q_out, .inl (cJ, 1, .inr (.inl f1)))] H := hP
    have hD : va_D A [(q_out, .inl (cJ, 1, .inr (.inl f1)))] := hD
    refine lv_goto (tgt := 15) hx hb d_La_peek_9 (by decide) ?_
    refine lv_iconst (v := 0) hx hb d_La_peek_15 (by decide) ?_
    have hP9 := hP.sub (ws' := [(q_out, .inl (cJ, 1, .inr (.inl f1)))]) [0] rfl
    have hD9 := hD.sub (ws' := [(q_out, .inl (cJ, 1, .inr (.inl f1)))]) [0] (by decide) rfl
    refine W.widen (k := 1) (n := 6) (Nat.le_of_ble_eq_true rfl) (Nat.le_of_ble_eq_true rfl) ?_
    exact tx_ret (W.iret (v := 0) hx hb hr (fun t ht hW => ⟨⟨fun h => absurd h hgood, fun _ => ⟨rfl, f1, by rw [hf1]; rfl, by rw [ht]; exact hP9, hD9⟩⟩, hS.F ht⟩) (hS.2.2) d_La_peek_16)
  · have hbad : p0 < 0 ∨ ¬ p0 < 512 := Classical.byContradiction (fun h => by cases (hpost.2 h))
    obtain ⟨x9, hx9, ce, hce, hcl, hvm⟩ := hpost.1 hbad
    cases hx9
    refine tx_catch (own := "StoryMachineLaw") (C := "java/lang/IllegalArgumentException") (X := "java/lang/IllegalArgumentException") (tx_tab B (hts _ mw_424)) (by decide) (by decide) hown (hts _ mw_349) (by rw [← ht]; exact hce) (fun k h => by rw [hvm] at h; cases h) (by rw [← hWt.alike.findClass]; exact hcl) (hts _ mw_356) ?_
    refine lv_astore_n (lv' := [(3, .ref x), (0, .ref h0), (1, .int p0), (2, .ref q_out)]) hx hb d_La_peek_12 rfl hl (by decide) rfl (fun ls hl => ?_)
    refine lv_iconst (v := 1) hx hb d_La_peek_13 (by decide) ?_
    refine W.widen (k := 1) (n := 6) (Nat.le_of_ble_eq_true rfl) (Nat.le_of_ble_eq_true rfl) ?_
    exact tx_ret (W.iret (v := 1) hx hb hr (fun t ht hW => ⟨⟨fun _ => rfl, fun h => absurd hbad h⟩, hS.F ht⟩) (hS.2.2) d_La_peek_14)
set_option maxHeartbeats 4000000 in
set_option maxRecDepth 100000 in
theorem c_La_run (l : Launch) (hfl : l.flags = pinnedFlags ++ [noTraceFlag]) (dC : Nat → ClassId) (dI : Nat → Nat → Nat) (cI cJ : ClassId) (h0 q1 q2 q3 q4 q5 e_memory e_line e_routines e_printer e_variables e_tree e_dictionary e_instruction e_aside e_newLocals : Nat) (p0 : Int32) (q_out : Nat) (sz : Nat) : tx_Met l ⟨"StoryMachineLaw", "run", "(LStoryMachine;I[J)I"⟩ tw_tbl ({ frames := 8, cells := 1, slots := 6, locals := 180 }) (tq_P (dC, dI) vcl [.ref h0, .int p0, .ref q_out] sz [(h0, .inr (0, [.ref q1, .ref q2, .ref q3, .ref q4, .ref q5])), (q5, .inr (5, [.ref e_memory, .ref e_line, .ref e_routines, .ref e_printer, .ref e_variables, .ref e_tree, .ref e_dictionary, .ref e_instruction, .ref e_aside, .ref e_newLocals, .int 0, .int (-1), .int 0, .int 0, .int 0])), (q_out, .inl (cJ, 1, .inr (.inl (fun _ => 0))))] [(cI, .int), (cJ, .long)]) (tq_Q (fun o t => ((p0 < 1 ∨ 300 < p0) → o = .returned (some (.int 1))) ∧ (¬ (p0 < 1 ∨ 300 < p0) → o = .returned (some (.int 2)))) (va_A [(h0, .inr (0, [.ref q1, .ref q2, .ref q3, .ref q4, .ref q5])), (q5, .inr (5, [.ref e_memory, .ref e_line, .ref e_routines, .ref e_printer, .ref e_variables, .ref e_tree, .ref e_dictionary, .ref e_instruction, .ref e_aside, .ref e_newLocals, .int 0, .int (-1), .int 0, .int 0, .int 0])), (q_out, .inl (cJ, 1, .inr (.inl (fun _ => 0))))] sz)) 1 6 (va_A [(h0, .inr (0, [.ref q1, .ref q2, .ref q3, .ref q4, .ref q5])), (q5, .inr (5, [.ref e_memory, .ref e_line, .ref e_routines, .ref e_printer, .ref e_variables, .ref e_tree, .ref e_dictionary, .ref e_instruction, .ref e_aside, .ref e_newLocals, .int 0, .int (-1), .int 0, .int 0, .int 0])), (q_out, .inl (cJ, 1, .inr (.inl (fun _ => 0))))] sz) := by
  refine tx_ofW (cc := method_7_code) (maxL := 4) (ret := (some .int)) (by decide) (tx_isWM mw_483) ?_
  intro p e s m args below meth c s₁ B hml hv
  obtain ⟨rfl, hsz, hP, hK, hD0, hst0⟩ := hv
  have hx := B.exec
  have hb := B.bytes
  have hr := B.returns
  have hts := atoms_spec (ws := tw_tbl) B.pre
  have hown : s.vm.findClass "StoryMachineLaw" = some m.cls := findClass_of_methodNamed B.named
  have hlocks := B.notSynchronized
  subst hsz
  have hD := hD0.self (sz := s.heap.size)
  have hst := fun (H : Heap) (locs : List Loc) (hS : va_S (va_A [(h0, .inr (0, [.ref q1, .ref q2, .ref q3, .ref q4, .ref q5])), (q5, .inr (5, [.ref e_memory, .ref e_line, .ref e_routines, .ref e_printer, .ref e_variables, .ref e_tree, .ref e_dictionary, .ref e_instruction, .ref e_aside, .ref e_newLocals, .int 0, .int (-1), .int 0, .int 0, .int 0])), (q_out, .inl (cJ, 1, .inr (.inl (fun _ => 0))))] s.heap.size) s.heap H locs) (U : State) (hU : U.heap = H) (hW : s.WarmedH U.vm) => ts_keep hW (fun q cell h1 h2 => by rw [hU]; exact ts_va hP hS q cell h1 h2) hst0
  generalize hAe : va_A [(h0, .inr (0, [.ref q1, .ref q2, .ref q3, .ref q4, .ref q5])), (q5, .inr (5, [.ref e_memory, .ref e_line, .ref e_routines, .ref e_printer, .ref e_variables, .ref e_tree, .ref e_dictionary, .ref e_instruction, .ref e_aside, .ref e_newLocals, .int 0, .int (-1), .int 0, .int 0, .int 0])), (q_out, .inl (cJ, 1, .inr (.inl (fun _ => 0))))] s.heap.size = A at hD hst ⊢
  have hA : ∀ q : Nat, s.heap.size ≤ q → A q := fun q h => by rw [← hAe]; exact Or.inr h
  have hS : va_S A s.heap s.heap [] := va_S.rf
  have hP : va_P (dC, dI) vcl [(h0, .inr (0, [.ref q1, .ref q2, .ref q3, .ref q4, .ref q5])), (q5, .inr (5, [.ref e_memory, .ref e_line, .ref e_routines, .ref e_printer, .ref e_variables, .ref e_tree, .ref e_dictionary, .ref e_instruction, .ref e_aside, .ref e_newLocals, .int 0, .int (-1), .int 0, .int 0, .int 0])), (q_out, .inl (cJ, 1, .inr (.inl (fun _ => 0))))] s.heap := hP
  have hl := lv_entry ([.ref h0, .int p0, .ref q_out]) (n := 4) (Nat.le_of_ble_eq_true rfl)
  rw [lg_entry_eq]
  generalize (lg_sl ([.ref h0, .int p0, .ref q_out]) ++ List.replicate (4 - (lg_sl ([.ref h0, .int p0, .ref q_out])).length) Slot.unset).toArray = ls at hl ⊢
  have hl : lv_has ls 4 [(0, .ref h0), (1, .int p0), (2, .ref q_out)] := hl
  refine lv_aload_n hx hb d_La_run_0 rfl (lv_at hl 2 rfl) ?_
  refine lv_iconst (v := 0) hx hb d_La_run_1 (by decide) ?_
  refine lv_aload_n hx hb d_La_run_2 rfl (lv_at hl 0 rfl) ?_
  refine lv_iload_n hx hb d_La_run_3 rfl (lv_at hl 1 rfl) ?_
  have hPc := hP.sub (ws' := [(h0, .inr (0, [.ref q1, .ref q2, .ref q3, .ref q4, .ref q5])), (q5, .inr (5, [.ref e_memory, .ref e_line, .ref e_routines, .ref e_printer, .ref e_variables, .ref e_tree, .ref e_dictionary, .ref e_instruction, .ref e_aside, .ref e_newLocals, .int 0, .int (-1), .int 0, .int 0, .int 0]))]) [0, 1] rfl
  have hDc := hD.sub (ws' := [(h0, .inr (0, [.ref q1, .ref q2, .ref q3, .ref q4, .ref q5])), (q5, .inr (5, [.ref e_memory, .ref e_line, .ref e_routines, .ref e_printer, .ref e_variables, .ref e_tree, .ref e_dictionary, .ref e_instruction, .ref e_aside, .ref e_newLocals, .int 0, .int (-1), .int 0, .int 0, .int 0]))]) [0, 1] (by decide) rfl
  have hFc := va_free (wc := [(h0, .inr (0, [.ref q1, .ref q2, .ref q3, .ref q4, .ref q5])), (q5, .inr (5, [.ref e_memory, .ref e_line, .ref e_routines, .ref e_printer, .ref e_variables, .ref e_tree, .ref e_dictionary, .ref e_instruction, .ref e_aside, .ref e_newLocals, .int 0, .int (-1), .int 0, .int 0, .int 0]))]) hD hS hA [0, 1] rfl
  refine tx_callK (A1 := va_A [(h0, .inr (0, [.ref q1, .ref q2, .ref q3, .ref q4, .ref q5])), (q5, .inr (5, [.ref e_memory, .ref e_line, .ref e_routines, .ref e_printer, .ref e_variables, .ref e_tree, .ref e_dictionary, .ref e_instruction, .ref e_aside, .ref e_newLocals, .int 0, .int (-1), .int 0, .int 0, .int 0]))] s.heap.size) (tx_runV (C := "StoryMachine") (As := [.int p0]) (rest := [.int 0, .ref q_out]) ⟨hx, hb, hml, hown, hts⟩ (c_SM_run l hfl dC dI cI h0 q1 q2 q3 q4 q5 e_memory e_line e_routines e_printer e_variables e_tree e_dictionary e_instruction e_aside e_newLocals p0 s.heap.size) (tx_cb (n := 1) hts rfl rfl ⟨Nat.le_of_ble_eq_true rfl, Nat.le_of_ble_eq_true rfl⟩ (tx_code.of (hts _ mw_487)) (hts _ mw_1) (by decide +kernel) (hts _ mw_484)) (hts _ mw_485) (hts _ mw_486) ⟨tq_blind, ta_recv (q0 := 0) hts in_SM hK hP rfl rfl, fun U hU hW => ⟨rfl, by rw [hU], by rw [hU]; exact hPc, va_K.moved hW.alike (hK.sub (tys' := [(cI, .int)]) [0] rfl), hDc.weaken (fun _ _ _ _ => trivial), hst _ _ hS U hU hW⟩⟩ rfl rfl hl.1 rfl (lv_room (Nat.le_of_ble_eq_true rfl)) d_La_run_4 ⟨Nat.le_of_ble_eq_true rfl, Nat.le_of_ble_eq_true rfl⟩) hS (fun q _ h => hFc q h) hFc (fun v t H4 locs ht hWt hpost hz1 hk1 hS => ?_) (fun x t H4 locs ht hWt hpost hz1 hk1 hS => ?_)
  · exact absurd hpost (by rintro ⟨h1, h2⟩; rcases Classical.em (p0 < 1 ∨ 300 < p0) with h | h; (obtain ⟨x, h3, -⟩ := h1 h; cases h3); (obtain ⟨x, h3, -⟩ := h2 h; cases h3))
  · rcases Classical.em (p0 < 1 ∨ 300 < p0) with hbad | hgood
    · obtain ⟨x9, hx9, ce, hce, hcl, hvm⟩ := hpost.1 hbad
      cases hx9
      refine tx_catch (own := "StoryMachineLaw") (C := "java/lang/IllegalArgumentException") (X := "java/lang/IllegalArgumentException") (tx_tab B (hts _ mw_483)) (by decide) (by decide) hown (hts _ mw_349) (by rw [← ht]; exact hce) (fun k h => by rw [hvm] at h; cases h) (by rw [← hWt.alike.findClass]; exact hcl) (hts _ mw_356) ?_
      refine lv_astore_n (lv' := [(3, .ref x), (0, .ref h0), (1, .int p0), (2, .ref q_out)]) hx hb d_La_run_12 rfl hl (by decide) rfl (fun ls hl => ?_)
      refine lv_iconst (v := 1) hx hb d_La_run_13 (by decide) ?_
      refine W.widen (k := 1) (n := 6) (Nat.le_of_ble_eq_true rfl) (Nat.le_of_ble_eq_true rfl) ?_
      exact tx_ret (W.iret (v := 1) hx hb hr (fun t ht hW => ⟨⟨fun _ => rfl, fun h => absurd hbad h⟩, hS.F ht⟩) (hS.2.2) d_La_run_14)
    · obtain ⟨x9, hx9, ce, hce, hcl, hvm⟩ := hpost.2 hgood
      cases hx9
      refine tx_catch2 (own := "StoryMachineLaw") (C1 := "java/lang/IllegalArgumentException") (C := "java/lang/IllegalStateException") (X := "java/lang/IllegalStateException") (tx_tab B (hts _ mw_483)) (by decide) (by decide) (by decide) (by decide) hown (hts _ mw_349) (hts _ mw_432) (by rw [← ht]; exact hce) (fun k h => by rw [hvm] at h; cases h) (by rw [← hWt.alike.findClass]; exact hcl) (hst0 _ _ (List.mem_of_getElem? (i := 4) rfl)) (hts _ mw_445) ?_
      refine lv_astore_n (lv' := [(3, .ref x), (0, .ref h0), (1, .int p0), (2, .ref q_out)]) hx hb d_La_run_15 rfl hl (by decide) rfl (fun ls hl => ?_)
      refine lv_iconst (v := 2) hx hb d_La_run_16 (by decide) ?_
      refine W.widen (k := 1) (n := 6) (Nat.le_of_ble_eq_true rfl) (Nat.le_of_ble_eq_true rfl) ?_
      exact tx_ret (W.iret (v := 2) hx hb hr (fun t ht hW => ⟨⟨fun h => absurd h hgood, fun _ => rfl⟩, hS.F ht⟩) (hS.2.2) d_La_run_17)
set_option maxHeartbeats 4000000 in
set_option maxRecDepth 100000 in
theorem c_La_output (l : Launch) (hfl : l.flags = pinnedFlags ++ [noTraceFlag]) (dC : Nat → ClassId) (dI : Nat → Nat → Nat) (cI cJ : ClassId) (h0 q1 q2 q3 q4 q5 p_memory p_kept : Nat) (p0 : Int32) (q_out : Nat) (sz : Nat) : tx_Met l ⟨"StoryMachineLaw", "output", "(LStoryMachine;I[J)I"⟩ tw_tbl ({ frames := 8, cells := 1, slots := 6, locals := 180 }) (tq_P (dC, dI) vcl [.ref h0, .int p0, .ref q_out] sz [(h0, .inr (0, [.ref q1, .ref q2, .ref q3, .ref q4, .ref q5])), (q4, .inr (4, [.ref p_memory, .ref p_kept, .int 0, .int 0, .int 0])), (q_out, .inl (cJ, 1, .inr (.inl (fun _ => 0))))] [(cI, .int), (cJ, .long)]) (tq_Q (fun o t => ((p0 < (-1) ∨ 64 ≤ p0 ∨ 0 ≤ p0) → o = .returned (some (.int 1))) ∧ (¬ (p0 < (-1) ∨ 64 ≤ p0 ∨ 0 ≤ p0) → o = .returned (some (.int 0)) ∧ (∃ fo : Nat → Int64, fo 0 = 0 ∧ va_P (dC, dI) vcl [(q_out, .inl (cJ, 1, .inr (.inl fo)))] t.heap ∧ va_D (va_A [(h0, .inr (0, [.ref q1, .ref q2, .ref q3, .ref q4, .ref q5])), (q4, .inr (4, [.ref p_memory, .ref p_kept, .int 0, .int 0, .int 0])), (q_out, .inl (cJ, 1, .inr (.inl (fun _ => 0))))] sz) [(q_out, .inl (cJ, 1, .inr (.inl fo)))]))) (va_A [(h0, .inr (0, [.ref q1, .ref q2, .ref q3, .ref q4, .ref q5])), (q4, .inr (4, [.ref p_memory, .ref p_kept, .int 0, .int 0, .int 0])), (q_out, .inl (cJ, 1, .inr (.inl (fun _ => 0))))] sz)) 1 6 (va_A [(h0, .inr (0, [.ref q1, .ref q2, .ref q3, .ref q4, .ref q5])), (q4, .inr (4, [.ref p_memory, .ref p_kept, .int 0, .int 0, .int 0])), (q_out, .inl (cJ, 1, .inr (.inl (fun _ => 0))))] sz) := by
  refine tx_ofW (cc := method_8_code) (maxL := 4) (ret := (some .int)) (by decide) (tx_isWM mw_1013) ?_
  intro p e s m args below meth c s₁ B hml hv
  obtain ⟨rfl, hsz, hP, hK, hD0, hst0⟩ := hv
  have hx := B.exec
  have hb := B.bytes
  have hr := B.returns
  have hts := atoms_spec (ws := tw_tbl) B.pre
  have hown : s.vm.findClass "StoryMachineLaw" = some m.cls := findClass_of_methodNamed B.named
  have hlocks := B.notSynchronized
  subst hsz
  have hD := hD0.self (sz := s.heap.size)
  have hst := fun (H : Heap) (locs : List Loc) (hS : va_S (va_A [(h0, .inr (0, [.ref q1, .ref q2, .ref q3, .ref q4, .ref q5])), (q4, .inr (4, [.ref p_memory, .ref p_kept, .int 0, .int 0, .int 0])), (q_out, .inl (cJ, 1, .inr (.inl (fun _ => 0))))] s.heap.size) s.heap H locs) (U : State) (hU : U.heap = H) (hW : s.WarmedH U.vm) => ts_keep hW (fun q cell h1 h2 => by rw [hU]; exact ts_va hP hS q cell h1 h2) hst0
  generalize hAe : va_A [(h0, .inr (0, [.ref q1, .ref q2, .ref q3, .ref q4, .ref q5])), (q4, .inr (4, [.ref p_memory, .ref p_kept, .int 0, .int 0, .int 0])), (q_out, .inl (cJ, 1, .inr (.inl (fun _ => 0))))] s.heap.size = A at hD hst ⊢
  have hA : ∀ q : Nat, s.heap.size ≤ q → A q := fun q h => by rw [← hAe]; exact Or.inr h
  have hS : va_S A s.heap s.heap [] := va_S.rf
  have hP : va_P (dC, dI) vcl [(h0, .inr (0, [.ref q1, .ref q2, .ref q3, .ref q4, .ref q5])), (q4, .inr (4, [.ref p_memory, .ref p_kept, .int 0, .int 0, .int 0])), (q_out, .inl (cJ, 1, .inr (.inl (fun _ => 0))))] s.heap := hP
  have hl := lv_entry ([.ref h0, .int p0, .ref q_out]) (n := 4) (Nat.le_of_ble_eq_true rfl)
  rw [lg_entry_eq]
  generalize (lg_sl ([.ref h0, .int p0, .ref q_out]) ++ List.replicate (4 - (lg_sl ([.ref h0, .int p0, .ref q_out])).length) Slot.unset).toArray = ls at hl ⊢
  have hl : lv_has ls 4 [(0, .ref h0), (1, .int p0), (2, .ref q_out)] := hl
  refine lv_aload_n hx hb d_La_output_0 rfl (lv_at hl 2 rfl) ?_
  refine lv_iconst (v := 0) hx hb d_La_output_1 (by decide) ?_
  refine lv_aload_n hx hb d_La_output_2 rfl (lv_at hl 0 rfl) ?_
  refine lv_iload_n hx hb d_La_output_3 rfl (lv_at hl 1 rfl) ?_
  have hPc := hP.sub (ws' := [(h0, .inr (0, [.ref q1, .ref q2, .ref q3, .ref q4, .ref q5])), (q4, .inr (4, [.ref p_memory, .ref p_kept, .int 0, .int 0, .int 0]))]) [0, 1] rfl
  have hDc := hD.sub (ws' := [(h0, .inr (0, [.ref q1, .ref q2, .ref q3, .ref q4, .ref q5])), (q4, .inr (4, [.ref p_memory, .ref p_kept, .int 0, .int 0, .int 0]))]) [0, 1] (by decide) rfl
  have hFc := va_free (wc := [(h0, .inr (0, [.ref q1, .ref q2, .ref q3, .ref q4, .ref q5])), (q4, .inr (4, [.ref p_memory, .ref p_kept, .int 0, .int 0, .int 0]))]) hD hS hA [0, 1] rfl
  refine tx_callK (A1 := va_A [(h0, .inr (0, [.ref q1, .ref q2, .ref q3, .ref q4, .ref q5])), (q4, .inr (4, [.ref p_memory, .ref p_kept, .int 0, .int 0, .int 0]))] s.heap.size) (tx_runV (C := "StoryMachine") (As := [.int p0]) (rest := [.int 0, .ref q_out]) ⟨hx, hb, hml, hown, hts⟩ (c_SM_output l hfl dC dI cI h0 q1 q2 q3 q4 q5 p_memory p_kept p0 s.heap.size) (tx_cb (n := 1) hts rfl rfl ⟨Nat.le_of_ble_eq_true rfl, Nat.le_of_ble_eq_true rfl⟩ (tx_code.of (hts _ mw_1018)) (hts _ mw_1) (by decide +kernel) (hts _ mw_1015)) (hts _ mw_1016) (hts _ mw_1017) ⟨tq_blind, ta_recv (q0 := 0) hts in_SM hK hP rfl rfl, fun U hU hW => ⟨rfl, by rw [hU], by rw [hU]; exact hPc, va_K.moved hW.alike (hK.sub (tys' := [(cI, .int)]) [0] rfl), hDc.weaken (fun _ _ _ _ => trivial), hst _ _ hS U hU hW⟩⟩ rfl rfl hl.1 rfl (lv_room (Nat.le_of_ble_eq_true rfl)) d_La_output_4 ⟨Nat.le_of_ble_eq_true rfl, Nat.le_of_ble_eq_true rfl⟩) hS (fun q _ h => hFc q h) hFc (fun v t H4 locs ht hWt hpost hz1 hk1 hS => ?_) (fun x t H4 locs ht hWt hpost hz1 hk1 hS => ?_)
  · have hgood : ¬ (p0 < (-1) ∨ 64 ≤ p0 ∨ 0 ≤ p0) := fun hb9 => by obtain ⟨x, h3, -⟩ := hpost.1 hb9; cases h3
    have ho := hpost.2 hgood
    cases ho
    have hP1 := ta_nilP (D := (dC, dI)) (cl := vcl) (H := t.heap)
    have hD1 := ta_nilD (A := va_A [(h0, .inr (0, [.ref q1, .ref q2, .ref q3, .ref q4, .ref q5])), (q4, .inr (4, [.ref p_memory, .ref p_kept, .int 0, .int 0, .int 0]))] s.heap.size)
    rw [ht] at hP1
    obtain ⟨hP, hD⟩ := va_join (wr := [(q_out, .inl (cJ, 1, .inr (.inl (fun _ => 0))))]) (w1 := []) hP hD [0, 1] [2] rfl rfl (by decide) (by decide) hk1 hFc hP1 hD1
    have hP : va_P (dC, dI) vcl [(q_out, .inl (cJ, 1, .inr (.inl (fun _ => 0))))] H4 := hP
    have hD : va_D A [(q_out, .inl (cJ, 1, .inr (.inl (fun _ => 0))))] := hD
    refine lv_i2l hx hb d_La_output_7 rfl ?_
    refine va_last hx hb hK hP hD hS 0 1 rfl rfl (show ¬ ((0 : Int32) < 0 ∨ 1 ≤ (0 : Int32).toNatClampNeg) by decide) d_La_output_8 (fun H locs hP hD hS => ?_)
    obtain ⟨f1, hf1⟩ : ∃ z : Nat → Int64, z = vp_updL (fun _ => 0) (Int32.toNatClampNeg (0)) (Int32.toInt64 0) := ⟨_, rfl⟩
    rw [← hf1] at hP hD
    have hP : va_P (dC, dI) vcl [(q_out, .inl (cJ, 1, .inr (.inl f1)))] H := hP
    have hD : va_D A [(q_out, .inl (cJ, 1, .inr (.inl f1)))] := hD
    refine lv_goto (tgt := 15) hx hb d_La_output_9 (by decide) ?_
    refine lv_iconst (v := 0) hx hb d_La_output_15 (by decide) ?_
    have hP9 := hP.sub (ws' := [(q_out, .inl (cJ, 1, .inr (.inl f1)))]) [0] rfl
    have hD9 := hD.sub (ws' := [(q_out, .inl (cJ, 1, .inr (.inl f1)))]) [0] (by decide) rfl
    refine W.widen (k := 1) (n := 6) (Nat.le_of_ble_eq_true rfl) (Nat.le_of_ble_eq_true rfl) ?_
    exact tx_ret (W.iret (v := 0) hx hb hr (fun t ht hW => ⟨⟨fun h => absurd h hgood, fun _ => ⟨rfl, f1, by rw [hf1]; rfl, by rw [ht]; exact hP9, hD9⟩⟩, hS.F ht⟩) (hS.2.2) d_La_output_16)
  · have hbad : p0 < (-1) ∨ 64 ≤ p0 ∨ 0 ≤ p0 := Classical.byContradiction (fun h => by cases (hpost.2 h))
    obtain ⟨x9, hx9, ce, hce, hcl, hvm⟩ := hpost.1 hbad
    cases hx9
    refine tx_catch (own := "StoryMachineLaw") (C := "java/lang/IndexOutOfBoundsException") (X := "java/lang/IndexOutOfBoundsException") (tx_tab B (hts _ mw_1013)) (by decide) (by decide) hown (hts _ mw_1014) (by rw [← ht]; exact hce) (fun k h => by rw [hvm] at h; cases h) (by rw [← hWt.alike.findClass]; exact hcl) (hts _ mw_1021) ?_
    refine lv_astore_n (lv' := [(3, .ref x), (0, .ref h0), (1, .int p0), (2, .ref q_out)]) hx hb d_La_output_12 rfl hl (by decide) rfl (fun ls hl => ?_)
    refine lv_iconst (v := 1) hx hb d_La_output_13 (by decide) ?_
    refine W.widen (k := 1) (n := 6) (Nat.le_of_ble_eq_true rfl) (Nat.le_of_ble_eq_true rfl) ?_
    exact tx_ret (W.iret (v := 1) hx hb hr (fun t ht hW => ⟨⟨fun _ => rfl, fun h => absurd hbad h⟩, hS.F ht⟩) (hS.2.2) d_La_output_14)
set_option maxHeartbeats 4000000 in
set_option maxRecDepth 100000 in
theorem c_La_stack (l : Launch) (hfl : l.flags = pinnedFlags ++ [noTraceFlag]) (dC : Nat → ClassId) (dI : Nat → Nat → Nat) (cI cJ : ClassId) (h0 q1 q2 q3 q4 q5 r_words r_floors r_behinds r_results r_localCounts r_locals : Nat) (p0 : Int32) (q_out : Nat) (sz : Nat) : tx_Met l ⟨"StoryMachineLaw", "stack", "(LStoryMachine;I[J)I"⟩ tw_tbl ({ frames := 8, cells := 1, slots := 6, locals := 180 }) (tq_P (dC, dI) vcl [.ref h0, .int p0, .ref q_out] sz [(h0, .inr (0, [.ref q1, .ref q2, .ref q3, .ref q4, .ref q5])), (q3, .inr (3, [.ref r_words, .int 0, .int 0, .ref r_floors, .ref r_behinds, .ref r_results, .ref r_localCounts, .ref r_locals])), (q_out, .inl (cJ, 1, .inr (.inl (fun _ => 0))))] [(cI, .int), (cJ, .long)]) (tq_Q (fun o t => ((p0 < (-1) ∨ 0 ≤ p0) → o = .returned (some (.int 1))) ∧ (¬ (p0 < (-1) ∨ 0 ≤ p0) → o = .returned (some (.int 0)) ∧ (∃ fo : Nat → Int64, fo 0 = 0 ∧ va_P (dC, dI) vcl [(q_out, .inl (cJ, 1, .inr (.inl fo)))] t.heap ∧ va_D (va_A [(h0, .inr (0, [.ref q1, .ref q2, .ref q3, .ref q4, .ref q5])), (q3, .inr (3, [.ref r_words, .int 0, .int 0, .ref r_floors, .ref r_behinds, .ref r_results, .ref r_localCounts, .ref r_locals])), (q_out, .inl (cJ, 1, .inr (.inl (fun _ => 0))))] sz) [(q_out, .inl (cJ, 1, .inr (.inl fo)))]))) (va_A [(h0, .inr (0, [.ref q1, .ref q2, .ref q3, .ref q4, .ref q5])), (q3, .inr (3, [.ref r_words, .int 0, .int 0, .ref r_floors, .ref r_behinds, .ref r_results, .ref r_localCounts, .ref r_locals])), (q_out, .inl (cJ, 1, .inr (.inl (fun _ => 0))))] sz)) 1 6 (va_A [(h0, .inr (0, [.ref q1, .ref q2, .ref q3, .ref q4, .ref q5])), (q3, .inr (3, [.ref r_words, .int 0, .int 0, .ref r_floors, .ref r_behinds, .ref r_results, .ref r_localCounts, .ref r_locals])), (q_out, .inl (cJ, 1, .inr (.inl (fun _ => 0))))] sz) := by
  refine tx_ofW (cc := method_9_code) (maxL := 4) (ret := (some .int)) (by decide) (tx_isWM mw_1040) ?_
  intro p e s m args below meth c s₁ B hml hv
  obtain ⟨rfl, hsz, hP, hK, hD0, hst0⟩ := hv
  have hx := B.exec
  have hb := B.bytes
  have hr := B.returns
  have hts := atoms_spec (ws := tw_tbl) B.pre
  have hown : s.vm.findClass "StoryMachineLaw" = some m.cls := findClass_of_methodNamed B.named
  have hlocks := B.notSynchronized
  subst hsz
  have hD := hD0.self (sz := s.heap.size)
  have hst := fun (H : Heap) (locs : List Loc) (hS : va_S (va_A [(h0, .inr (0, [.ref q1, .ref q2, .ref q3, .ref q4, .ref q5])), (q3, .inr (3, [.ref r_words, .int 0, .int 0, .ref r_floors, .ref r_behinds, .ref r_results, .ref r_localCounts, .ref r_locals])), (q_out, .inl (cJ, 1, .inr (.inl (fun _ => 0))))] s.heap.size) s.heap H locs) (U : State) (hU : U.heap = H) (hW : s.WarmedH U.vm) => ts_keep hW (fun q cell h1 h2 => by rw [hU]; exact ts_va hP hS q cell h1 h2) hst0
  generalize hAe : va_A [(h0, .inr (0, [.ref q1, .ref q2, .ref q3, .ref q4, .ref q5])), (q3, .inr (3, [.ref r_words, .int 0, .int 0, .ref r_floors, .ref r_behinds, .ref r_results, .ref r_localCounts, .ref r_locals])), (q_out, .inl (cJ, 1, .inr (.inl (fun _ => 0))))] s.heap.size = A at hD hst ⊢
  have hA : ∀ q : Nat, s.heap.size ≤ q → A q := fun q h => by rw [← hAe]; exact Or.inr h
  have hS : va_S A s.heap s.heap [] := va_S.rf
  have hP : va_P (dC, dI) vcl [(h0, .inr (0, [.ref q1, .ref q2, .ref q3, .ref q4, .ref q5])), (q3, .inr (3, [.ref r_words, .int 0, .int 0, .ref r_floors, .ref r_behinds, .ref r_results, .ref r_localCounts, .ref r_locals])), (q_out, .inl (cJ, 1, .inr (.inl (fun _ => 0))))] s.heap := hP
  have hl := lv_entry ([.ref h0, .int p0, .ref q_out]) (n := 4) (Nat.le_of_ble_eq_true rfl)
  rw [lg_entry_eq]
  generalize (lg_sl ([.ref h0, .int p0, .ref q_out]) ++ List.replicate (4 - (lg_sl ([.ref h0, .int p0, .ref q_out])).length) Slot.unset).toArray = ls at hl ⊢
  have hl : lv_has ls 4 [(0, .ref h0), (1, .int p0), (2, .ref q_out)] := hl
  refine lv_aload_n hx hb d_La_stack_0 rfl (lv_at hl 2 rfl) ?_
  refine lv_iconst (v := 0) hx hb d_La_stack_1 (by decide) ?_
  refine lv_aload_n hx hb d_La_stack_2 rfl (lv_at hl 0 rfl) ?_
  refine lv_iload_n hx hb d_La_stack_3 rfl (lv_at hl 1 rfl) ?_
  have hPc := hP.sub (ws' := [(h0, .inr (0, [.ref q1, .ref q2, .ref q3, .ref q4, .ref q5])), (q3, .inr (3, [.ref r_words, .int 0, .int 0, .ref r_floors, .ref r_behinds, .ref r_results, .ref r_localCounts, .ref r_locals]))]) [0, 1] rfl
  have hDc := hD.sub (ws' := [(h0, .inr (0, [.ref q1, .ref q2, .ref q3, .ref q4, .ref q5])), (q3, .inr (3, [.ref r_words, .int 0, .int 0, .ref r_floors, .ref r_behinds, .ref r_results, .ref r_localCounts, .ref r_locals]))]) [0, 1] (by decide) rfl
  have hFc := va_free (wc := [(h0, .inr (0, [.ref q1, .ref q2, .ref q3, .ref q4, .ref q5])), (q3, .inr (3, [.ref r_words, .int 0, .int 0, .ref r_floors, .ref r_behinds, .ref r_results, .ref r_localCounts, .ref r_locals]))]) hD hS hA [0, 1] rfl
  refine tx_callK (A1 := va_A [(h0, .inr (0, [.ref q1, .ref q2, .ref q3, .ref q4, .ref q5])), (q3, .inr (3, [.ref r_words, .int 0, .int 0, .ref r_floors, .ref r_behinds, .ref r_results, .ref r_localCounts, .ref r_locals]))] s.heap.size) (tx_runV (C := "StoryMachine") (As := [.int p0]) (rest := [.int 0, .ref q_out]) ⟨hx, hb, hml, hown, hts⟩ (c_SM_stack l hfl dC dI cI h0 q1 q2 q3 q4 q5 r_words r_floors r_behinds r_results r_localCounts r_locals p0 s.heap.size) (tx_cb (n := 1) hts rfl rfl ⟨Nat.le_of_ble_eq_true rfl, Nat.le_of_ble_eq_true rfl⟩ (tx_code.of (hts _ mw_1044)) (hts _ mw_1) (by decide +kernel) (hts _ mw_1041)) (hts _ mw_1042) (hts _ mw_1043) ⟨tq_blind, ta_recv (q0 := 0) hts in_SM hK hP rfl rfl, fun U hU hW => ⟨rfl, by rw [hU], by rw [hU]; exact hPc, va_K.moved hW.alike (hK.sub (tys' := [(cI, .int)]) [0] rfl), hDc.weaken (fun _ _ _ _ => trivial), hst _ _ hS U hU hW⟩⟩ rfl rfl hl.1 rfl (lv_room (Nat.le_of_ble_eq_true rfl)) d_La_stack_4 ⟨Nat.le_of_ble_eq_true rfl, Nat.le_of_ble_eq_true rfl⟩) hS (fun q _ h => hFc q h) hFc (fun v t H4 locs ht hWt hpost hz1 hk1 hS => ?_) (fun x t H4 locs ht hWt hpost hz1 hk1 hS => ?_)
  · have hgood : ¬ (p0 < (-1) ∨ 0 ≤ p0) := fun hb9 => by obtain ⟨x, h3, -⟩ := hpost.1 hb9; cases h3
    have ho := hpost.2 hgood
    cases ho
    have hP1 := ta_nilP (D := (dC, dI)) (cl := vcl) (H := t.heap)
    have hD1 := ta_nilD (A := va_A [(h0, .inr (0, [.ref q1, .ref q2, .ref q3, .ref q4, .ref q5])), (q3, .inr (3, [.ref r_words, .int 0, .int 0, .ref r_floors, .ref r_behinds, .ref r_results, .ref r_localCounts, .ref r_locals]))] s.heap.size)
    rw [ht] at hP1
    obtain ⟨hP, hD⟩ := va_join (wr := [(q_out, .inl (cJ, 1, .inr (.inl (fun _ => 0))))]) (w1 := []) hP hD [0, 1] [2] rfl rfl (by decide) (by decide) hk1 hFc hP1 hD1
    have hP : va_P (dC, dI) vcl [(q_out, .inl (cJ, 1, .inr (.inl (fun _ => 0))))] H4 := hP
    have hD : va_D A [(q_out, .inl (cJ, 1, .inr (.inl (fun _ => 0))))] := hD
    refine lv_i2l hx hb d_La_stack_7 rfl ?_
    refine va_last hx hb hK hP hD hS 0 1 rfl rfl (show ¬ ((0 : Int32) < 0 ∨ 1 ≤ (0 : Int32).toNatClampNeg) by decide) d_La_stack_8 (fun H locs hP hD hS => ?_)
    obtain ⟨f1, hf1⟩ : ∃ z : Nat → Int64, z = vp_updL (fun _ => 0) (Int32.toNatClampNeg (0)) (Int32.toInt64 0) := ⟨_, rfl⟩
    rw [← hf1] at hP hD
    have hP : va_P (dC, dI) vcl [(q_out, .inl (cJ, 1, .inr (.inl f1)))] H := hP
    have hD : va_D A [(q_out, .inl (cJ, 1, .inr (.inl f1)))] := hD
    refine lv_goto (tgt := 15) hx hb d_La_stack_9 (by decide) ?_
    refine lv_iconst (v := 0) hx hb d_La_stack_15 (by decide) ?_
    have hP9 := hP.sub (ws' := [(q_out, .inl (cJ, 1, .inr (.inl f1)))]) [0] rfl
    have hD9 := hD.sub (ws' := [(q_out, .inl (cJ, 1, .inr (.inl f1)))]) [0] (by decide) rfl
    refine W.widen (k := 1) (n := 6) (Nat.le_of_ble_eq_true rfl) (Nat.le_of_ble_eq_true rfl) ?_
    exact tx_ret (W.iret (v := 0) hx hb hr (fun t ht hW => ⟨⟨fun h => absurd h hgood, fun _ => ⟨rfl, f1, by rw [hf1]; rfl, by rw [ht]; exact hP9, hD9⟩⟩, hS.F ht⟩) (hS.2.2) d_La_stack_16)
  · have hbad : p0 < (-1) ∨ 0 ≤ p0 := Classical.byContradiction (fun h => by cases (hpost.2 h))
    obtain ⟨x9, hx9, ce, hce, hcl, hvm⟩ := hpost.1 hbad
    cases hx9
    refine tx_catch (own := "StoryMachineLaw") (C := "java/lang/IndexOutOfBoundsException") (X := "java/lang/IndexOutOfBoundsException") (tx_tab B (hts _ mw_1040)) (by decide) (by decide) hown (hts _ mw_1014) (by rw [← ht]; exact hce) (fun k h => by rw [hvm] at h; cases h) (by rw [← hWt.alike.findClass]; exact hcl) (hts _ mw_1021) ?_
    refine lv_astore_n (lv' := [(3, .ref x), (0, .ref h0), (1, .int p0), (2, .ref q_out)]) hx hb d_La_stack_12 rfl hl (by decide) rfl (fun ls hl => ?_)
    refine lv_iconst (v := 1) hx hb d_La_stack_13 (by decide) ?_
    refine W.widen (k := 1) (n := 6) (Nat.le_of_ble_eq_true rfl) (Nat.le_of_ble_eq_true rfl) ?_
    exact tx_ret (W.iret (v := 1) hx hb hr (fun t ht hW => ⟨⟨fun _ => rfl, fun h => absurd hbad h⟩, hS.F ht⟩) (hS.2.2) d_La_stack_14)
set_option maxHeartbeats 4000000 in
set_option maxRecDepth 100000 in
theorem c_La_local (l : Launch) (hfl : l.flags = pinnedFlags ++ [noTraceFlag]) (dC : Nat → ClassId) (dI : Nat → Nat → Nat) (cI cJ : ClassId) (h0 q1 q2 q3 q4 q5 r_words r_floors r_behinds r_results r_localCounts r_locals : Nat) (p0 : Int32) (q_out : Nat) (sz : Nat) : tx_Met l ⟨"StoryMachineLaw", "local", "(LStoryMachine;I[J)I"⟩ tw_tbl ({ frames := 8, cells := 1, slots := 6, locals := 180 }) (tq_P (dC, dI) vcl [.ref h0, .int p0, .ref q_out] sz [(h0, .inr (0, [.ref q1, .ref q2, .ref q3, .ref q4, .ref q5])), (q3, .inr (3, [.ref r_words, .int 0, .int 0, .ref r_floors, .ref r_behinds, .ref r_results, .ref r_localCounts, .ref r_locals])), (r_localCounts, .inl (cI, 11, .inl (fun _ => 0))), (q_out, .inl (cJ, 1, .inr (.inl (fun _ => 0))))] [(cI, .int), (cJ, .long)]) (tq_Q (fun o t => ((p0 < 0 ∨ 15 < p0) → o = .returned (some (.int 1))) ∧ (¬ (p0 < 0 ∨ 15 < p0) → o = .returned (some (.int 0)) ∧ (∃ fo : Nat → Int64, fo 0 = 0 ∧ va_P (dC, dI) vcl [(q_out, .inl (cJ, 1, .inr (.inl fo)))] t.heap ∧ va_D (va_A [(h0, .inr (0, [.ref q1, .ref q2, .ref q3, .ref q4, .ref q5])), (q3, .inr (3, [.ref r_words, .int 0, .int 0, .ref r_floors, .ref r_behinds, .ref r_results, .ref r_localCounts, .ref r_locals])), (r_localCounts, .inl (cI, 11, .inl (fun _ => 0))), (q_out, .inl (cJ, 1, .inr (.inl (fun _ => 0))))] sz) [(q_out, .inl (cJ, 1, .inr (.inl fo)))]))) (va_A [(h0, .inr (0, [.ref q1, .ref q2, .ref q3, .ref q4, .ref q5])), (q3, .inr (3, [.ref r_words, .int 0, .int 0, .ref r_floors, .ref r_behinds, .ref r_results, .ref r_localCounts, .ref r_locals])), (r_localCounts, .inl (cI, 11, .inl (fun _ => 0))), (q_out, .inl (cJ, 1, .inr (.inl (fun _ => 0))))] sz)) 1 6 (va_A [(h0, .inr (0, [.ref q1, .ref q2, .ref q3, .ref q4, .ref q5])), (q3, .inr (3, [.ref r_words, .int 0, .int 0, .ref r_floors, .ref r_behinds, .ref r_results, .ref r_localCounts, .ref r_locals])), (r_localCounts, .inl (cI, 11, .inl (fun _ => 0))), (q_out, .inl (cJ, 1, .inr (.inl (fun _ => 0))))] sz) := by
  refine tx_ofW (cc := method_10_code) (maxL := 4) (ret := (some .int)) (by decide) (tx_isWM mw_1047) ?_
  intro p e s m args below meth c s₁ B hml hv
  obtain ⟨rfl, hsz, hP, hK, hD0, hst0⟩ := hv
  have hx := B.exec
  have hb := B.bytes
  have hr := B.returns
  have hts := atoms_spec (ws := tw_tbl) B.pre
  have hown : s.vm.findClass "StoryMachineLaw" = some m.cls := findClass_of_methodNamed B.named
  have hlocks := B.notSynchronized
  subst hsz
  have hD := hD0.self (sz := s.heap.size)
  have hst := fun (H : Heap) (locs : List Loc) (hS : va_S (va_A [(h0, .inr (0, [.ref q1, .ref q2, .ref q3, .ref q4, .ref q5])), (q3, .inr (3, [.ref r_words, .int 0, .int 0, .ref r_floors, .ref r_behinds, .ref r_results, .ref r_localCounts, .ref r_locals])), (r_localCounts, .inl (cI, 11, .inl (fun _ => 0))), (q_out, .inl (cJ, 1, .inr (.inl (fun _ => 0))))] s.heap.size) s.heap H locs) (U : State) (hU : U.heap = H) (hW : s.WarmedH U.vm) => ts_keep hW (fun q cell h1 h2 => by rw [hU]; exact ts_va hP hS q cell h1 h2) hst0
  generalize hAe : va_A [(h0, .inr (0, [.ref q1, .ref q2, .ref q3, .ref q4, .ref q5])), (q3, .inr (3, [.ref r_words, .int 0, .int 0, .ref r_floors, .ref r_behinds, .ref r_results, .ref r_localCounts, .ref r_locals])), (r_localCounts, .inl (cI, 11, .inl (fun _ => 0))), (q_out, .inl (cJ, 1, .inr (.inl (fun _ => 0))))] s.heap.size = A at hD hst ⊢
  have hA : ∀ q : Nat, s.heap.size ≤ q → A q := fun q h => by rw [← hAe]; exact Or.inr h
  have hS : va_S A s.heap s.heap [] := va_S.rf
  have hP : va_P (dC, dI) vcl [(h0, .inr (0, [.ref q1, .ref q2, .ref q3, .ref q4, .ref q5])), (q3, .inr (3, [.ref r_words, .int 0, .int 0, .ref r_floors, .ref r_behinds, .ref r_results, .ref r_localCounts, .ref r_locals])), (r_localCounts, .inl (cI, 11, .inl (fun _ => 0))), (q_out, .inl (cJ, 1, .inr (.inl (fun _ => 0))))] s.heap := hP
  have hl := lv_entry ([.ref h0, .int p0, .ref q_out]) (n := 4) (Nat.le_of_ble_eq_true rfl)
  rw [lg_entry_eq]
  generalize (lg_sl ([.ref h0, .int p0, .ref q_out]) ++ List.replicate (4 - (lg_sl ([.ref h0, .int p0, .ref q_out])).length) Slot.unset).toArray = ls at hl ⊢
  have hl : lv_has ls 4 [(0, .ref h0), (1, .int p0), (2, .ref q_out)] := hl
  refine lv_aload_n hx hb d_La_local_0 rfl (lv_at hl 2 rfl) ?_
  refine lv_iconst (v := 0) hx hb d_La_local_1 (by decide) ?_
  refine lv_aload_n hx hb d_La_local_2 rfl (lv_at hl 0 rfl) ?_
  refine lv_iload_n hx hb d_La_local_3 rfl (lv_at hl 1 rfl) ?_
  have hPc := hP.sub (ws' := [(h0, .inr (0, [.ref q1, .ref q2, .ref q3, .ref q4, .ref q5])), (q3, .inr (3, [.ref r_words, .int 0, .int 0, .ref r_floors, .ref r_behinds, .ref r_results, .ref r_localCounts, .ref r_locals])), (r_localCounts, .inl (cI, 11, .inl (fun _ => 0)))]) [0, 1, 2] rfl
  have hDc := hD.sub (ws' := [(h0, .inr (0, [.ref q1, .ref q2, .ref q3, .ref q4, .ref q5])), (q3, .inr (3, [.ref r_words, .int 0, .int 0, .ref r_floors, .ref r_behinds, .ref r_results, .ref r_localCounts, .ref r_locals])), (r_localCounts, .inl (cI, 11, .inl (fun _ => 0)))]) [0, 1, 2] (by decide) rfl
  have hFc := va_free (wc := [(h0, .inr (0, [.ref q1, .ref q2, .ref q3, .ref q4, .ref q5])), (q3, .inr (3, [.ref r_words, .int 0, .int 0, .ref r_floors, .ref r_behinds, .ref r_results, .ref r_localCounts, .ref r_locals])), (r_localCounts, .inl (cI, 11, .inl (fun _ => 0)))]) hD hS hA [0, 1, 2] rfl
  refine tx_callK (A1 := va_A [(h0, .inr (0, [.ref q1, .ref q2, .ref q3, .ref q4, .ref q5])), (q3, .inr (3, [.ref r_words, .int 0, .int 0, .ref r_floors, .ref r_behinds, .ref r_results, .ref r_localCounts, .ref r_locals])), (r_localCounts, .inl (cI, 11, .inl (fun _ => 0)))] s.heap.size) (tx_runV (C := "StoryMachine") (As := [.int p0]) (rest := [.int 0, .ref q_out]) ⟨hx, hb, hml, hown, hts⟩ (c_SM_local l hfl dC dI cI h0 q1 q2 q3 q4 q5 r_words r_floors r_behinds r_results r_localCounts r_locals p0 s.heap.size) (tx_cb (n := 1) hts rfl rfl ⟨Nat.le_of_ble_eq_true rfl, Nat.le_of_ble_eq_true rfl⟩ (tx_code.of (hts _ mw_1051)) (hts _ mw_1) (by decide +kernel) (hts _ mw_1048)) (hts _ mw_1049) (hts _ mw_1050) ⟨tq_blind, ta_recv (q0 := 0) hts in_SM hK hP rfl rfl, fun U hU hW => ⟨rfl, by rw [hU], by rw [hU]; exact hPc, va_K.moved hW.alike (hK.sub (tys' := [(cI, .int)]) [0] rfl), hDc.weaken (fun _ _ _ _ => trivial), hst _ _ hS U hU hW⟩⟩ rfl rfl hl.1 rfl (lv_room (Nat.le_of_ble_eq_true rfl)) d_La_local_4 ⟨Nat.le_of_ble_eq_true rfl, Nat.le_of_ble_eq_true rfl⟩) hS (fun q _ h => hFc q h) hFc (fun v t H4 locs ht hWt hpost hz1 hk1 hS => ?_) (fun x t H4 locs ht hWt hpost hz1 hk1 hS => ?_)
  · have hgood : ¬ (p0 < 0 ∨ 15 < p0) := fun hb9 => by obtain ⟨x, h3, -⟩ := hpost.1 hb9; cases h3
    have ho := hpost.2 hgood
    cases ho
    have hP1 := ta_nilP (D := (dC, dI)) (cl := vcl) (H := t.heap)
    have hD1 := ta_nilD (A := va_A [(h0, .inr (0, [.ref q1, .ref q2, .ref q3, .ref q4, .ref q5])), (q3, .inr (3, [.ref r_words, .int 0, .int 0, .ref r_floors, .ref r_behinds, .ref r_results, .ref r_localCounts, .ref r_locals])), (r_localCounts, .inl (cI, 11, .inl (fun _ => 0)))] s.heap.size)
    rw [ht] at hP1
    obtain ⟨hP, hD⟩ := va_join (wr := [(q_out, .inl (cJ, 1, .inr (.inl (fun _ => 0))))]) (w1 := []) hP hD [0, 1, 2] [3] rfl rfl (by decide) (by decide) hk1 hFc hP1 hD1
    have hP : va_P (dC, dI) vcl [(q_out, .inl (cJ, 1, .inr (.inl (fun _ => 0))))] H4 := hP
    have hD : va_D A [(q_out, .inl (cJ, 1, .inr (.inl (fun _ => 0))))] := hD
    refine lv_i2l hx hb d_La_local_7 rfl ?_
    refine va_last hx hb hK hP hD hS 0 1 rfl rfl (show ¬ ((0 : Int32) < 0 ∨ 1 ≤ (0 : Int32).toNatClampNeg) by decide) d_La_local_8 (fun H locs hP hD hS => ?_)
    obtain ⟨f1, hf1⟩ : ∃ z : Nat → Int64, z = vp_updL (fun _ => 0) (Int32.toNatClampNeg (0)) (Int32.toInt64 0) := ⟨_, rfl⟩
    rw [← hf1] at hP hD
    have hP : va_P (dC, dI) vcl [(q_out, .inl (cJ, 1, .inr (.inl f1)))] H := hP
    have hD : va_D A [(q_out, .inl (cJ, 1, .inr (.inl f1)))] := hD
    refine lv_goto (tgt := 15) hx hb d_La_local_9 (by decide) ?_
    refine lv_iconst (v := 0) hx hb d_La_local_15 (by decide) ?_
    have hP9 := hP.sub (ws' := [(q_out, .inl (cJ, 1, .inr (.inl f1)))]) [0] rfl
    have hD9 := hD.sub (ws' := [(q_out, .inl (cJ, 1, .inr (.inl f1)))]) [0] (by decide) rfl
    refine W.widen (k := 1) (n := 6) (Nat.le_of_ble_eq_true rfl) (Nat.le_of_ble_eq_true rfl) ?_
    exact tx_ret (W.iret (v := 0) hx hb hr (fun t ht hW => ⟨⟨fun h => absurd h hgood, fun _ => ⟨rfl, f1, by rw [hf1]; rfl, by rw [ht]; exact hP9, hD9⟩⟩, hS.F ht⟩) (hS.2.2) d_La_local_16)
  · have hbad : p0 < 0 ∨ 15 < p0 := Classical.byContradiction (fun h => by cases (hpost.2 h))
    obtain ⟨x9, hx9, ce, hce, hcl, hvm⟩ := hpost.1 hbad
    cases hx9
    refine tx_catch (own := "StoryMachineLaw") (C := "java/lang/IndexOutOfBoundsException") (X := "java/lang/IndexOutOfBoundsException") (tx_tab B (hts _ mw_1047)) (by decide) (by decide) hown (hts _ mw_1014) (by rw [← ht]; exact hce) (fun k h => by rw [hvm] at h; cases h) (by rw [← hWt.alike.findClass]; exact hcl) (hts _ mw_1021) ?_
    refine lv_astore_n (lv' := [(3, .ref x), (0, .ref h0), (1, .int p0), (2, .ref q_out)]) hx hb d_La_local_12 rfl hl (by decide) rfl (fun ls hl => ?_)
    refine lv_iconst (v := 1) hx hb d_La_local_13 (by decide) ?_
    refine W.widen (k := 1) (n := 6) (Nat.le_of_ble_eq_true rfl) (Nat.le_of_ble_eq_true rfl) ?_
    exact tx_ret (W.iret (v := 1) hx hb hr (fun t ht hW => ⟨⟨fun _ => rfl, fun h => absurd hbad h⟩, hS.F ht⟩) (hS.2.2) d_La_local_14)
set_option maxHeartbeats 4000000 in
set_option maxRecDepth 100000 in
theorem c_La_begin (l : Launch) (hfl : l.flags = pinnedFlags ++ [noTraceFlag]) (dC : Nat → ClassId) (dI : Nat → Nat → Nat) (cI cJ : ClassId) (h0 q1 q2 q3 q4 q5 q6 e_memory e_line e_routines e_printer e_variables e_tree e_dictionary e_instruction e_aside e_newLocals p_memory p_kept s_memory s_routines r_words r_floors r_behinds r_results r_localCounts r_locals l_typed l_entered : Nat) (sz : Nat) : tx_Met l ⟨"StoryMachineLaw", "begin", "(LStoryMachine;)I"⟩ tw_tbl ({ frames := 9, cells := 1, slots := 6, locals := 200 }) (tq_P (dC, dI) vcl [.ref h0] sz [(h0, .inr (0, [.ref q1, .ref q2, .ref q3, .ref q4, .ref q5])), (q1, .inr (1, [.ref q6])), (q6, .inl (cI, 512, .inl (fun _ => 0))), (q5, .inr (5, [.ref e_memory, .ref e_line, .ref e_routines, .ref e_printer, .ref e_variables, .ref e_tree, .ref e_dictionary, .ref e_instruction, .ref e_aside, .ref e_newLocals, .int 0, .int (-1), .int 0, .int 0, .int 0])), (e_printer, .inr (4, [.ref p_memory, .ref p_kept, .int 0, .int 0, .int 0])), (e_aside, .inr (10, [.int 0, .ref s_memory, .ref s_routines, .int 0])), (e_routines, .inr (3, [.ref r_words, .int 0, .int 0, .ref r_floors, .ref r_behinds, .ref r_results, .ref r_localCounts, .ref r_locals])), (r_floors, .inl (cI, 11, .inl (fun _ => 0))), (r_localCounts, .inl (cI, 11, .inl (fun _ => 0))), (e_line, .inr (2, [.ref l_typed, .int 0, .ref l_entered, .int 0, .int 0]))] [(cI, .int), (cJ, .long)]) (tq_Q (fun o t => o = .returned (some (.int 0))) (va_A [(h0, .inr (0, [.ref q1, .ref q2, .ref q3, .ref q4, .ref q5])), (q1, .inr (1, [.ref q6])), (q6, .inl (cI, 512, .inl (fun _ => 0))), (q5, .inr (5, [.ref e_memory, .ref e_line, .ref e_routines, .ref e_printer, .ref e_variables, .ref e_tree, .ref e_dictionary, .ref e_instruction, .ref e_aside, .ref e_newLocals, .int 0, .int (-1), .int 0, .int 0, .int 0])), (e_printer, .inr (4, [.ref p_memory, .ref p_kept, .int 0, .int 0, .int 0])), (e_aside, .inr (10, [.int 0, .ref s_memory, .ref s_routines, .int 0])), (e_routines, .inr (3, [.ref r_words, .int 0, .int 0, .ref r_floors, .ref r_behinds, .ref r_results, .ref r_localCounts, .ref r_locals])), (r_floors, .inl (cI, 11, .inl (fun _ => 0))), (r_localCounts, .inl (cI, 11, .inl (fun _ => 0))), (e_line, .inr (2, [.ref l_typed, .int 0, .ref l_entered, .int 0, .int 0]))] sz)) 1 6 (va_A [(h0, .inr (0, [.ref q1, .ref q2, .ref q3, .ref q4, .ref q5])), (q1, .inr (1, [.ref q6])), (q6, .inl (cI, 512, .inl (fun _ => 0))), (q5, .inr (5, [.ref e_memory, .ref e_line, .ref e_routines, .ref e_printer, .ref e_variables, .ref e_tree, .ref e_dictionary, .ref e_instruction, .ref e_aside, .ref e_newLocals, .int 0, .int (-1), .int 0, .int 0, .int 0])), (e_printer, .inr (4, [.ref p_memory, .ref p_kept, .int 0, .int 0, .int 0])), (e_aside, .inr (10, [.int 0, .ref s_memory, .ref s_routines, .int 0])), (e_routines, .inr (3, [.ref r_words, .int 0, .int 0, .ref r_floors, .ref r_behinds, .ref r_results, .ref r_localCounts, .ref r_locals])), (r_floors, .inl (cI, 11, .inl (fun _ => 0))), (r_localCounts, .inl (cI, 11, .inl (fun _ => 0))), (e_line, .inr (2, [.ref l_typed, .int 0, .ref l_entered, .int 0, .int 0]))] sz) := by
  refine tx_ofW (cc := method_5_code) (maxL := 2) (ret := (some .int)) (by decide) (tx_isWM mw_431) ?_
  intro p e s m args below meth c s₁ B hml hv
  obtain ⟨rfl, hsz, hP, hK, hD0, hst0⟩ := hv
  have hx := B.exec
  have hb := B.bytes
  have hr := B.returns
  have hts := atoms_spec (ws := tw_tbl) B.pre
  have hown : s.vm.findClass "StoryMachineLaw" = some m.cls := findClass_of_methodNamed B.named
  have hlocks := B.notSynchronized
  subst hsz
  have hD := hD0.self (sz := s.heap.size)
  have hst := fun (H : Heap) (locs : List Loc) (hS : va_S (va_A [(h0, .inr (0, [.ref q1, .ref q2, .ref q3, .ref q4, .ref q5])), (q1, .inr (1, [.ref q6])), (q6, .inl (cI, 512, .inl (fun _ => 0))), (q5, .inr (5, [.ref e_memory, .ref e_line, .ref e_routines, .ref e_printer, .ref e_variables, .ref e_tree, .ref e_dictionary, .ref e_instruction, .ref e_aside, .ref e_newLocals, .int 0, .int (-1), .int 0, .int 0, .int 0])), (e_printer, .inr (4, [.ref p_memory, .ref p_kept, .int 0, .int 0, .int 0])), (e_aside, .inr (10, [.int 0, .ref s_memory, .ref s_routines, .int 0])), (e_routines, .inr (3, [.ref r_words, .int 0, .int 0, .ref r_floors, .ref r_behinds, .ref r_results, .ref r_localCounts, .ref r_locals])), (r_floors, .inl (cI, 11, .inl (fun _ => 0))), (r_localCounts, .inl (cI, 11, .inl (fun _ => 0))), (e_line, .inr (2, [.ref l_typed, .int 0, .ref l_entered, .int 0, .int 0]))] s.heap.size) s.heap H locs) (U : State) (hU : U.heap = H) (hW : s.WarmedH U.vm) => ts_keep hW (fun q cell h1 h2 => by rw [hU]; exact ts_va hP hS q cell h1 h2) hst0
  generalize hAe : va_A [(h0, .inr (0, [.ref q1, .ref q2, .ref q3, .ref q4, .ref q5])), (q1, .inr (1, [.ref q6])), (q6, .inl (cI, 512, .inl (fun _ => 0))), (q5, .inr (5, [.ref e_memory, .ref e_line, .ref e_routines, .ref e_printer, .ref e_variables, .ref e_tree, .ref e_dictionary, .ref e_instruction, .ref e_aside, .ref e_newLocals, .int 0, .int (-1), .int 0, .int 0, .int 0])), (e_printer, .inr (4, [.ref p_memory, .ref p_kept, .int 0, .int 0, .int 0])), (e_aside, .inr (10, [.int 0, .ref s_memory, .ref s_routines, .int 0])), (e_routines, .inr (3, [.ref r_words, .int 0, .int 0, .ref r_floors, .ref r_behinds, .ref r_results, .ref r_localCounts, .ref r_locals])), (r_floors, .inl (cI, 11, .inl (fun _ => 0))), (r_localCounts, .inl (cI, 11, .inl (fun _ => 0))), (e_line, .inr (2, [.ref l_typed, .int 0, .ref l_entered, .int 0, .int 0]))] s.heap.size = A at hD hst ⊢
  have hA : ∀ q : Nat, s.heap.size ≤ q → A q := fun q h => by rw [← hAe]; exact Or.inr h
  have hS : va_S A s.heap s.heap [] := va_S.rf
  have hP : va_P (dC, dI) vcl [(h0, .inr (0, [.ref q1, .ref q2, .ref q3, .ref q4, .ref q5])), (q1, .inr (1, [.ref q6])), (q6, .inl (cI, 512, .inl (fun _ => 0))), (q5, .inr (5, [.ref e_memory, .ref e_line, .ref e_routines, .ref e_printer, .ref e_variables, .ref e_tree, .ref e_dictionary, .ref e_instruction, .ref e_aside, .ref e_newLocals, .int 0, .int (-1), .int 0, .int 0, .int 0])), (e_printer, .inr (4, [.ref p_memory, .ref p_kept, .int 0, .int 0, .int 0])), (e_aside, .inr (10, [.int 0, .ref s_memory, .ref s_routines, .int 0])), (e_routines, .inr (3, [.ref r_words, .int 0, .int 0, .ref r_floors, .ref r_behinds, .ref r_results, .ref r_localCounts, .ref r_locals])), (r_floors, .inl (cI, 11, .inl (fun _ => 0))), (r_localCounts, .inl (cI, 11, .inl (fun _ => 0))), (e_line, .inr (2, [.ref l_typed, .int 0, .ref l_entered, .int 0, .int 0]))] s.heap := hP
  have hl := lv_entry ([.ref h0]) (n := 2) (Nat.le_of_ble_eq_true rfl)
  rw [lg_entry_eq]
  generalize (lg_sl ([.ref h0]) ++ List.replicate (2 - (lg_sl ([.ref h0])).length) Slot.unset).toArray = ls at hl ⊢
  have hl : lv_has ls 2 [(0, .ref h0)] := hl
  refine lv_aload_n hx hb d_La_begin_0 rfl (lv_at hl 0 rfl) ?_
  have hPc := hP.sub (ws' := [(h0, .inr (0, [.ref q1, .ref q2, .ref q3, .ref q4, .ref q5])), (q1, .inr (1, [.ref q6])), (q6, .inl (cI, 512, .inl (fun _ => 0))), (q5, .inr (5, [.ref e_memory, .ref e_line, .ref e_routines, .ref e_printer, .ref e_variables, .ref e_tree, .ref e_dictionary, .ref e_instruction, .ref e_aside, .ref e_newLocals, .int 0, .int (-1), .int 0, .int 0, .int 0])), (e_printer, .inr (4, [.ref p_memory, .ref p_kept, .int 0, .int 0, .int 0])), (e_aside, .inr (10, [.int 0, .ref s_memory, .ref s_routines, .int 0])), (e_routines, .inr (3, [.ref r_words, .int 0, .int 0, .ref r_floors, .ref r_behinds, .ref r_results, .ref r_localCounts, .ref r_locals])), (r_floors, .inl (cI, 11, .inl (fun _ => 0))), (r_localCounts, .inl (cI, 11, .inl (fun _ => 0))), (e_line, .inr (2, [.ref l_typed, .int 0, .ref l_entered, .int 0, .int 0]))]) [0, 1, 2, 3, 4, 5, 6, 7, 8, 9] rfl
  have hDc := hD.sub (ws' := [(h0, .inr (0, [.ref q1, .ref q2, .ref q3, .ref q4, .ref q5])), (q1, .inr (1, [.ref q6])), (q6, .inl (cI, 512, .inl (fun _ => 0))), (q5, .inr (5, [.ref e_memory, .ref e_line, .ref e_routines, .ref e_printer, .ref e_variables, .ref e_tree, .ref e_dictionary, .ref e_instruction, .ref e_aside, .ref e_newLocals, .int 0, .int (-1), .int 0, .int 0, .int 0])), (e_printer, .inr (4, [.ref p_memory, .ref p_kept, .int 0, .int 0, .int 0])), (e_aside, .inr (10, [.int 0, .ref s_memory, .ref s_routines, .int 0])), (e_routines, .inr (3, [.ref r_words, .int 0, .int 0, .ref r_floors, .ref r_behinds, .ref r_results, .ref r_localCounts, .ref r_locals])), (r_floors, .inl (cI, 11, .inl (fun _ => 0))), (r_localCounts, .inl (cI, 11, .inl (fun _ => 0))), (e_line, .inr (2, [.ref l_typed, .int 0, .ref l_entered, .int 0, .int 0]))]) [0, 1, 2, 3, 4, 5, 6, 7, 8, 9] (by decide) rfl
  have hFc := va_free (wc := [(h0, .inr (0, [.ref q1, .ref q2, .ref q3, .ref q4, .ref q5])), (q1, .inr (1, [.ref q6])), (q6, .inl (cI, 512, .inl (fun _ => 0))), (q5, .inr (5, [.ref e_memory, .ref e_line, .ref e_routines, .ref e_printer, .ref e_variables, .ref e_tree, .ref e_dictionary, .ref e_instruction, .ref e_aside, .ref e_newLocals, .int 0, .int (-1), .int 0, .int 0, .int 0])), (e_printer, .inr (4, [.ref p_memory, .ref p_kept, .int 0, .int 0, .int 0])), (e_aside, .inr (10, [.int 0, .ref s_memory, .ref s_routines, .int 0])), (e_routines, .inr (3, [.ref r_words, .int 0, .int 0, .ref r_floors, .ref r_behinds, .ref r_results, .ref r_localCounts, .ref r_locals])), (r_floors, .inl (cI, 11, .inl (fun _ => 0))), (r_localCounts, .inl (cI, 11, .inl (fun _ => 0))), (e_line, .inr (2, [.ref l_typed, .int 0, .ref l_entered, .int 0, .int 0]))]) hD hS hA [0, 1, 2, 3, 4, 5, 6, 7, 8, 9] rfl
  refine tx_callK (A1 := va_A [(h0, .inr (0, [.ref q1, .ref q2, .ref q3, .ref q4, .ref q5])), (q1, .inr (1, [.ref q6])), (q6, .inl (cI, 512, .inl (fun _ => 0))), (q5, .inr (5, [.ref e_memory, .ref e_line, .ref e_routines, .ref e_printer, .ref e_variables, .ref e_tree, .ref e_dictionary, .ref e_instruction, .ref e_aside, .ref e_newLocals, .int 0, .int (-1), .int 0, .int 0, .int 0])), (e_printer, .inr (4, [.ref p_memory, .ref p_kept, .int 0, .int 0, .int 0])), (e_aside, .inr (10, [.int 0, .ref s_memory, .ref s_routines, .int 0])), (e_routines, .inr (3, [.ref r_words, .int 0, .int 0, .ref r_floors, .ref r_behinds, .ref r_results, .ref r_localCounts, .ref r_locals])), (r_floors, .inl (cI, 11, .inl (fun _ => 0))), (r_localCounts, .inl (cI, 11, .inl (fun _ => 0))), (e_line, .inr (2, [.ref l_typed, .int 0, .ref l_entered, .int 0, .int 0]))] s.heap.size) (tx_runV (C := "StoryMachine") (As := []) (rest := []) ⟨hx, hb, hml, hown, hts⟩ (c_SM_begin l hfl dC dI cI h0 q1 q2 q3 q4 q5 q6 e_memory e_line e_routines e_printer e_variables e_tree e_dictionary e_instruction e_aside e_newLocals p_memory p_kept s_memory s_routines r_words r_floors r_behinds r_results r_localCounts r_locals l_typed l_entered s.heap.size) (tx_cb (n := 0) hts rfl rfl ⟨Nat.le_of_ble_eq_true rfl, Nat.le_of_ble_eq_true rfl⟩ (tx_code.of (hts _ mw_436)) (hts _ mw_1) (by decide +kernel) (hts _ mw_433)) (hts _ mw_434) (hts _ mw_435) ⟨tq_blind, ta_recv (q0 := 0) hts in_SM hK hP rfl rfl, fun U hU hW => ⟨rfl, by rw [hU], by rw [hU]; exact hPc, va_K.moved hW.alike (hK.sub (tys' := [(cI, .int)]) [0] rfl), hDc.weaken (fun _ _ _ _ => trivial), hst _ _ hS U hU hW⟩⟩ rfl rfl hl.1 rfl (lv_room (Nat.le_of_ble_eq_true rfl)) d_La_begin_1 ⟨Nat.le_of_ble_eq_true rfl, Nat.le_of_ble_eq_true rfl⟩) hS (fun q _ h => hFc q h) hFc (fun v t H1 locs ht hWt hpost hz1 hk1 hS => ?_) (fun x t H1 locs ht hWt hpost hz1 hk1 hS => by cases hpost)
  cases hpost
  have hP1 := ta_nilP (D := (dC, dI)) (cl := vcl) (H := t.heap)
  have hD1 := ta_nilD (A := va_A [(h0, .inr (0, [.ref q1, .ref q2, .ref q3, .ref q4, .ref q5])), (q1, .inr (1, [.ref q6])), (q6, .inl (cI, 512, .inl (fun _ => 0))), (q5, .inr (5, [.ref e_memory, .ref e_line, .ref e_routines, .ref e_printer, .ref e_variables, .ref e_tree, .ref e_dictionary, .ref e_instruction, .ref e_aside, .ref e_newLocals, .int 0, .int (-1), .int 0, .int 0, .int 0])), (e_printer, .inr (4, [.ref p_memory, .ref p_kept, .int 0, .int 0, .int 0])), (e_aside, .inr (10, [.int 0, .ref s_memory, .ref s_routines, .int 0])), (e_routines, .inr (3, [.ref r_words, .int 0, .int 0, .ref r_floors, .ref r_behinds, .ref r_results, .ref r_localCounts, .ref r_locals])), (r_floors, .inl (cI, 11, .inl (fun _ => 0))), (r_localCounts, .inl (cI, 11, .inl (fun _ => 0))), (e_line, .inr (2, [.ref l_typed, .int 0, .ref l_entered, .int 0, .int 0]))] s.heap.size)
  rw [ht] at hP1
  obtain ⟨hP, hD⟩ := va_join (wr := []) (w1 := []) hP hD [0, 1, 2, 3, 4, 5, 6, 7, 8, 9] [] rfl rfl (by decide) (by decide) hk1 hFc hP1 hD1
  have hP : va_P (dC, dI) vcl [] H1 := hP
  have hD : va_D A [] := hD
  refine lv_goto (tgt := 10) hx hb d_La_begin_4 (by decide) ?_
  refine lv_iconst (v := 0) hx hb d_La_begin_10 (by decide) ?_
  refine W.widen (k := 1) (n := 6) (Nat.le_of_ble_eq_true rfl) (Nat.le_of_ble_eq_true rfl) ?_
  exact tx_ret (W.iret (v := 0) hx hb hr (fun t ht hW => ⟨rfl, hS.F ht⟩) (hS.2.2) d_La_begin_11)
