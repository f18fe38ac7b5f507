/-! Contracts; written by wip/tools/p1.py. -/
set_option maxHeartbeats 4000000 in
set_option maxRecDepth 100000 in
theorem c_SM_poke (l : Launch) (hfl : l.flags = pinnedFlags ++ [noTraceFlag]) (dC : Nat → ClassId) (dI : Nat → Nat → Nat) (cI : ClassId) (h0 q1 q2 q3 q4 q5 q6 : Nat) (f : Nat → Int32) (p0 : Int32) (p1 : Int64) (p2 : Int32) (sz : Nat) : tx_Met l ⟨"StoryMachine", "poke", "(IJI)V"⟩ tw_tbl ({ frames := 7, cells := 1, slots := 6, locals := 130 }) (tq_P (dC, dI) vcl [.ref h0, .int p0, .long p1, .int p2] sz [(h0, .inr (0, [.ref q1, .ref q2, .ref q3, .ref q4, .ref q5])), (q1, .inr (1, [.ref q6])), (q6, .inl (cI, 512, .inl f))] [(cI, .int)]) (tq_Q (fun o t => ((p2 < 1 ∨ 8 < p2 ∨ p0 < 0 ∨ ¬ p0 ≤ 512 - p2) → ∃ x, o = .threw x ∧ ta_Ex "java/lang/IllegalArgumentException" x t) ∧ (¬ (p2 < 1 ∨ 8 < p2 ∨ p0 < 0 ∨ ¬ p0 ≤ 512 - p2) → o = .returned none)) (va_A [(h0, .inr (0, [.ref q1, .ref q2, .ref q3, .ref q4, .ref q5])), (q1, .inr (1, [.ref q6])), (q6, .inl (cI, 512, .inl f))] sz)) 1 6 (va_A [(h0, .inr (0, [.ref q1, .ref q2, .ref q3, .ref q4, .ref q5])), (q1, .inr (1, [.ref q6])), (q6, .inl (cI, 512, .inl f))] sz) := by
  refine tx_ofW (cc := prog_1_method_2_code) (maxL := 6) (ret := none) (by decide) (tx_isM mw_353) ?_
  intro p e s m args below meth c s₁ B hml hv
  obtain ⟨rfl, hsz, hP, hK, hD0, hst0⟩ := hv
  have hx := B.exec
  have hb := B.bytes
  have hr := B.returns
  have hts := atoms_spec (ws := tw_tbl) B.pre
  have hown : s.vm.findClass "StoryMachine" = some m.cls := findClass_of_methodNamed B.named
  have hlocks := B.notSynchronized
  subst hsz
  have hD := hD0.self (sz := s.heap.size)
  have hst := fun (H : Heap) (locs : List Loc) (hS : va_S (va_A [(h0, .inr (0, [.ref q1, .ref q2, .ref q3, .ref q4, .ref q5])), (q1, .inr (1, [.ref q6])), (q6, .inl (cI, 512, .inl f))] s.heap.size) s.heap H locs) (U : State) (hU : U.heap = H) (hW : s.WarmedH U.vm) => ts_keep hW (fun q cell h1 h2 => by rw [hU]; exact ts_va hP hS q cell h1 h2) hst0
  generalize hAe : va_A [(h0, .inr (0, [.ref q1, .ref q2, .ref q3, .ref q4, .ref q5])), (q1, .inr (1, [.ref q6])), (q6, .inl (cI, 512, .inl f))] s.heap.size = A at hD hst ⊢
  have hA : ∀ q : Nat, s.heap.size ≤ q → A q := fun q h => by rw [← hAe]; exact Or.inr h
  have hS : va_S A s.heap s.heap [] := va_S.rf
  have hP : va_P (dC, dI) vcl [(h0, .inr (0, [.ref q1, .ref q2, .ref q3, .ref q4, .ref q5])), (q1, .inr (1, [.ref q6])), (q6, .inl (cI, 512, .inl f))] s.heap := hP
  have hl := lv_entry ([.ref h0, .int p0, .long p1, .int p2]) (n := 6) (Nat.le_of_ble_eq_true rfl)
  rw [lg_entry_eq]
  generalize (lg_sl ([.ref h0, .int p0, .long p1, .int p2]) ++ List.replicate (6 - (lg_sl ([.ref h0, .int p0, .long p1, .int p2])).length) Slot.unset).toArray = ls at hl ⊢
  have hl : lv_has ls 6 [(0, .ref h0), (1, .int p0), (2, .long p1), (4, .int p2)] := hl
  refine lv_iload hx hb d_SM_poke_0 (lv_at hl 3 rfl) ?_
  refine lv_iconst (v := 1) hx hb d_SM_poke_2 (by decide) ?_
  refine lv_icmp_lt (tgt := 27) hx hb d_SM_poke_3 (by decide) (fun hc3 => ?_) (fun hc3 => ?_)
  · refine W.widen (k := 0) (n := 0) (Nat.le_of_ble_eq_true rfl) (Nat.le_of_ble_eq_true rfl) ?_
    exact tth_SM_IllegalArgumentException hx hb hfl hown hts (hst _ _ hS) (by rw [hml]; exact hl.1) d_SM_poke_27 d_SM_poke_30 d_SM_poke_31 d_SM_poke_34 (tx_noH B (hts _ mw_353) _) (Nat.le_of_ble_eq_true rfl) (Nat.le_of_ble_eq_true rfl) (Nat.le_of_ble_eq_true rfl) (Nat.le_of_ble_eq_true rfl) (fun t ce hW hz hk hce hcl hvm => ⟨⟨fun _ => ⟨_, rfl, ce, hce, hcl, hvm⟩, fun h => absurd (Or.inl hc3) h⟩, ta_thrown hS hz hk⟩) hS.2.2 hlocks
  · refine lv_iload hx hb d_SM_poke_6 (lv_at hl 3 rfl) ?_
    refine lv_bipush (v := 8) hx hb d_SM_poke_8 (by decide) ?_
    refine lv_icmp_gt (tgt := 27) hx hb d_SM_poke_10 (by decide) (fun hc10 => ?_) (fun hc10 => ?_)
    · refine W.widen (k := 0) (n := 0) (Nat.le_of_ble_eq_true rfl) (Nat.le_of_ble_eq_true rfl) ?_
      exact tth_SM_IllegalArgumentException hx hb hfl hown hts (hst _ _ hS) (by rw [hml]; exact hl.1) d_SM_poke_27 d_SM_poke_30 d_SM_poke_31 d_SM_poke_34 (tx_noH B (hts _ mw_353) _) (Nat.le_of_ble_eq_true rfl) (Nat.le_of_ble_eq_true rfl) (Nat.le_of_ble_eq_true rfl) (Nat.le_of_ble_eq_true rfl) (fun t ce hW hz hk hce hcl hvm => ⟨⟨fun _ => ⟨_, rfl, ce, hce, hcl, hvm⟩, fun h => absurd (Or.inr (Or.inl hc10)) h⟩, ta_thrown hS hz hk⟩) hS.2.2 hlocks
    · refine lv_iload_n hx hb d_SM_poke_13 rfl (lv_at hl 1 rfl) ?_
      refine lv_if_lt (tgt := 27) hx hb d_SM_poke_14 (by decide) (fun hc14 => ?_) (fun hc14 => ?_)
      · refine W.widen (k := 0) (n := 0) (Nat.le_of_ble_eq_true rfl) (Nat.le_of_ble_eq_true rfl) ?_
        exact tth_SM_IllegalArgumentException hx hb hfl hown hts (hst _ _ hS) (by rw [hml]; exact hl.1) d_SM_poke_27 d_SM_poke_30 d_SM_poke_31 d_SM_poke_34 (tx_noH B (hts _ mw_353) _) (Nat.le_of_ble_eq_true rfl) (Nat.le_of_ble_eq_true rfl) (Nat.le_of_ble_eq_true rfl) (Nat.le_of_ble_eq_true rfl) (fun t ce hW hz hk hce hcl hvm => ⟨⟨fun _ => ⟨_, rfl, ce, hce, hcl, hvm⟩, fun h => absurd (Or.inr (Or.inr (Or.inl hc14))) h⟩, ta_thrown hS hz hk⟩) hS.2.2 hlocks
      · refine lv_iload_n hx hb d_SM_poke_17 rfl (lv_at hl 1 rfl) ?_
        refine lv_sipush (v := 512) hx hb d_SM_poke_18 (by decide) ?_
        refine lv_iload hx hb d_SM_poke_21 (lv_at hl 3 rfl) ?_
        refine lv_isub hx hb d_SM_poke_23 ?_
        refine lv_icmp_le (tgt := 35) hx hb d_SM_poke_24 (by decide) (fun hc24 => ?_) (fun hc24 => ?_)
        · refine lv_iconst (v := 0) hx hb d_SM_poke_35 (by decide) ?_
          refine lv_istore (lv' := [(5, .int 0), (0, .ref h0), (1, .int p0), (2, .long p1), (4, .int p2)]) hx hb d_SM_poke_36 hl (by decide) rfl (fun ls hl => ?_)
          have hgood : ¬ (p2 < 1 ∨ 8 < p2 ∨ p0 < 0 ∨ ¬ p0 ≤ 512 - p2) := fun h => h.elim hc3 (fun h => h.elim hc10 (fun h => h.elim hc14 (fun h => h hc24)))
          obtain ⟨N, hN, hN1, hNe⟩ : ∃ N : Nat, N ≤ 8 ∧ 1 ≤ N ∧ p2 = nI N := ti_few hc3 hc10
          obtain ⟨P, hPp, hPe⟩ : ∃ P : Nat, P + N ≤ 512 ∧ p0 = nI P := ti_place hN hN1 hNe hc14 hc24
          have loop : ∀ (k : Nat) (H : Heap) (locs : List Loc) (ls : Array Slot) (f : Nat → Int32), k ≤ N → va_P (dC, dI) vcl [(h0, .inr (0, [.ref q1, .ref q2, .ref q3, .ref q4, .ref q5])), (q1, .inr (1, [.ref q6])), (q6, .inl (cI, 512, .inl f))] H → va_D A [(h0, .inr (0, [.ref q1, .ref q2, .ref q3, .ref q4, .ref q5])), (q1, .inr (1, [.ref q6])), (q6, .inl (cI, 512, .inl f))] → va_S A s.heap H locs → lv_has ls 6 [(5, .int (nI (N - k))), (0, .ref h0), (1, .int p0), (2, .long p1), (4, .int p2)] → W p l e (headSpec tw_tbl ({ frames := 7, cells := 1, slots := 6, locals := 130 })).room s m ([.ref h0, .int p0, .long p1, .int p2] : List Value).toArray below meth c H locs 0 0 (tx_MQ below (tq_Q (fun o t => ((p2 < 1 ∨ 8 < p2 ∨ p0 < 0 ∨ ¬ p0 ≤ 512 - p2) → ∃ x, o = .threw x ∧ ta_Ex "java/lang/IllegalArgumentException" x t) ∧ (¬ (p2 < 1 ∨ 8 < p2 ∨ p0 < 0 ∨ ¬ p0 ≤ 512 - p2) → o = .returned none)) A) ([.ref h0, .int p0, .long p1, .int p2] : List Value).toArray s 1 6 A) (F0 m 38 ls []) := by
            intro k
            induction k with
            | zero =>
              intro H locs ls f hk hP hD hS hl
              refine lv_iload hx hb d_SM_poke_38 (lv_at hl 0 rfl) ?_
              refine lv_iload hx hb d_SM_poke_40 (lv_at hl 4 rfl) ?_
              refine lv_icmp_ge (tgt := 71) hx hb d_SM_poke_42 (by decide) (fun _ => ?_) (fun h => absurd (by rw [hNe]; exact nI_le (Nat.le_refl N) (by omega)) h)
              refine W.widen (k := 1) (n := 6) (Nat.le_of_ble_eq_true rfl) (Nat.le_of_ble_eq_true rfl) ?_
              exact tx_ret (W.vret hx hb hr (fun t ht hW => ⟨⟨fun h => absurd h hgood, fun _ => rfl⟩, hS.F ht⟩) (hS.2.2) d_SM_poke_71)
            | succ k ih =>
              intro H locs ls f hk hP hD hS hl
              refine lv_iload hx hb d_SM_poke_38 (lv_at hl 0 rfl) ?_
              refine lv_iload hx hb d_SM_poke_40 (lv_at hl 4 rfl) ?_
              refine lv_icmp_ge (tgt := 71) hx hb d_SM_poke_42 (by decide) (fun h => absurd h (by rw [hNe]; exact nI_ge (by omega) (by omega))) (fun _ => ?_)
              refine lv_aload_n hx hb d_SM_poke_45 rfl (lv_at hl 1 rfl) ?_
              refine va_get (D := (dC, dI)) (ci := 0) (v := .ref q1) (C := "StoryMachine") (T := T_SM) (N := 5) hx hb hts in_SM hown hK hP 0 rfl rfl 0 (by decide) (hts _ mw_310) (fun _ h9 => h9) rfl d_SM_poke_46 ?_
              refine va_get (D := (dC, dI)) (ci := 1) (v := .ref q6) (C := "StoryMachine$Memory") (T := T_Me) (N := 1) hx hb hts in_Me hown hK hP 1 rfl rfl 0 (by decide) (hts _ mw_43) (fun _ h9 => h9) rfl d_SM_poke_49 ?_
              refine lv_iload_n hx hb d_SM_poke_52 rfl (lv_at hl 2 rfl) ?_
              refine lv_iload hx hb d_SM_poke_53 (lv_at hl 0 rfl) ?_
              refine lv_iadd hx hb d_SM_poke_55 ?_
              refine lv_lload_n hx hb d_SM_poke_56 rfl (lv_at hl 3 rfl) ?_
              refine lv_iload hx hb d_SM_poke_57 (lv_at hl 4 rfl) ?_
              refine lv_iload hx hb d_SM_poke_59 (lv_at hl 0 rfl) ?_
              have hPc := hP.sub (ws' := []) [] rfl
              have hDc := hD.sub (ws' := []) [] (by decide) rfl
              have hFc := va_free (wc := []) hD hS hA [] rfl
              refine tx_callK (A1 := va_A [] H.size) (tx_runS (As := [.long p1, .int p2, .int (nI (N - (k + 1)))]) (rest := [.int (p0 + (nI (N - (k + 1)))), .ref q6]) ⟨hx, hb, hml, hown, hts⟩ (c_SM_packed l hfl dC dI cI p1 p2 (nI (N - (k + 1))) H.size) (tx_cb (n := 3) hts rfl rfl ⟨Nat.le_of_ble_eq_true rfl, Nat.le_of_ble_eq_true rfl⟩ (tx_code.of (hts _ mw_421)) (hts _ mw_1) (by decide +kernel) (hts _ mw_419)) (hts _ mw_420) ⟨tq_blind, fun U hU hW => ⟨rfl, by rw [hU], by rw [hU]; exact hPc, va_K.moved hW.alike hK, hDc.weaken (fun _ _ _ _ => trivial), hst _ _ hS U hU hW⟩⟩ rfl rfl hl.1 rfl (lv_room (Nat.le_of_ble_eq_true rfl)) d_SM_poke_61 ⟨Nat.le_of_ble_eq_true rfl, Nat.le_of_ble_eq_true rfl⟩) hS (fun q _ h => hFc q h) hFc (fun v t H61 locs ht hWt hpost hz1 hk1 hS => ?_) (fun x t H1 locs ht hWt hpost hz1 hk1 hS => by obtain ⟨r, h⟩ := hpost; cases h)
              obtain ⟨r61, ho⟩ := hpost
              cases ho
              have hP1 := ta_nilP (D := (dC, dI)) (cl := vcl) (H := t.heap)
              have hD1 := ta_nilD (A := va_A [] H.size)
              rw [ht] at hP1
              obtain ⟨hP, hD⟩ := va_join (wr := [(h0, .inr (0, [.ref q1, .ref q2, .ref q3, .ref q4, .ref q5])), (q1, .inr (1, [.ref q6])), (q6, .inl (cI, 512, .inl f))]) (w1 := []) hP hD [] [0, 1, 2] rfl rfl (by decide) (by decide) hk1 hFc hP1 hD1
              have hP : va_P (dC, dI) vcl [(h0, .inr (0, [.ref q1, .ref q2, .ref q3, .ref q4, .ref q5])), (q1, .inr (1, [.ref q6])), (q6, .inl (cI, 512, .inl f))] H61 := hP
              have hD : va_D A [(h0, .inr (0, [.ref q1, .ref q2, .ref q3, .ref q4, .ref q5])), (q1, .inr (1, [.ref q6])), (q6, .inl (cI, 512, .inl f))] := hD
              refine va_iast hx hb hK hP hD hS 2 0 rfl rfl (by rw [hPe]; exact ti_in (by omega) (by decide)) d_SM_poke_64 (fun H locs hP hD hS => ?_)
              obtain ⟨f1, hf1⟩ : ∃ z : Nat → Int32, z = upd (f) (Int32.toNatClampNeg (p0 + (nI (N - (k + 1))))) (r61) := ⟨_, rfl⟩
              rw [← hf1] at hP hD
              have hP : va_P (dC, dI) vcl [(h0, .inr (0, [.ref q1, .ref q2, .ref q3, .ref q4, .ref q5])), (q1, .inr (1, [.ref q6])), (q6, .inl (cI, 512, .inl f1))] H := hP
              have hD : va_D A [(h0, .inr (0, [.ref q1, .ref q2, .ref q3, .ref q4, .ref q5])), (q1, .inr (1, [.ref q6])), (q6, .inl (cI, 512, .inl f1))] := hD
              refine lv_iinc (k := 0) (v := nI (N - k)) (lv' := [(5, .int (nI (N - k))), (0, .ref h0), (1, .int p0), (2, .long p1), (4, .int p2)]) hx hb d_SM_poke_65 hl rfl (ti_inc (by omega)) (by decide) rfl (fun ls hl => ?_)
              refine lv_goto (tgt := 38) hx hb d_SM_poke_68 (by decide) ?_
              exact ih _ _ _ _ (by omega) hP hD hS (lv_sub hl [0, 1, 2, 3, 4] rfl)
          exact loop N s.heap _ _ _ (Nat.le_refl N) hP hD hS (lv_sub (l' := [(5, .int (nI (N - N))), (0, .ref h0), (1, .int p0), (2, .long p1), (4, .int p2)]) hl [0, 1, 2, 3, 4] (by rw [Nat.sub_self]; rfl))
        · refine W.widen (k := 0) (n := 0) (Nat.le_of_ble_eq_true rfl) (Nat.le_of_ble_eq_true rfl) ?_
          exact tth_SM_IllegalArgumentException hx hb hfl hown hts (hst _ _ hS) (by rw [hml]; exact hl.1) d_SM_poke_27 d_SM_poke_30 d_SM_poke_31 d_SM_poke_34 (tx_noH B (hts _ mw_353) _) (Nat.le_of_ble_eq_true rfl) (Nat.le_of_ble_eq_true rfl) (Nat.le_of_ble_eq_true rfl) (Nat.le_of_ble_eq_true rfl) (fun t ce hW hz hk hce hcl hvm => ⟨⟨fun _ => ⟨_, rfl, ce, hce, hcl, hvm⟩, fun h => absurd (Or.inr (Or.inr (Or.inr (hc24)))) h⟩, ta_thrown hS hz hk⟩) hS.2.2 hlocks
