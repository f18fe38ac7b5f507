abbrev q_As_bringBack (dC : Nat → ClassId) (dI : Nat → Nat → Nat) (cI cJ : ClassId) (a : Nat → Nat) (he dp co li op wd tl lc : Int) (sf lf : Nat → Int32) : Outcome → State → Prop := fun o t => (∀ v, o = .returned v → ((∃ (z : Int32) (he_ dp_ : Int), v = some (.int z) ∧ okC he_ dp_ co li op wd tl lc sf lf ∧ (-2147483648) ≤ z.toInt ∧ z.toInt ≤ 2147483647 ∧ sh_I (dC, dI) vcl cI cJ (gsC a he_ dp_ co li op wd tl lc sf lf) t.heap))) ∧ (∀ x, o = .threw x → (False))
def rm_As_bringBack : Room := { frames := 2, cells := 0, slots := 0, locals := 81 }
set_option maxHeartbeats 4000000 in
set_option maxRecDepth 100000 in
theorem c_As_bringBack (l : Launch) (hfl : l.flags = pinnedFlags ++ [noTraceFlag]) (dC : Nat → ClassId) (dI : Nat → Nat → Nat) (cI cJ : ClassId) (a : Nat → Nat) (sz : Nat) (he dp co li op wd tl lc : Int) (sf lf : Nat → Int32) (hok : okC he dp co li op wd tl lc sf lf) : tz_Met l ⟨"StoryMachine$Aside", "bringBack", "(LStoryMachine$Memory;LStoryMachine$Routines;)I"⟩ tw_tbl rm_As_bringBack (tzP (dC, dI) vcl cI cJ (gsC a he dp co li op wd tl lc sf lf) (adC a) [.ref (a 20), .ref (a 1), .ref (a 3)] sz) (tq_Q (q_As_bringBack dC dI cI cJ a he dp co li op wd tl lc sf lf) (ga (adC a) sz)) 0 0 0 0 (ga (adC a) sz) := by
  refine tz_ofW (cc := prog_2_method_3_code) (maxL := 3) (ret := (some .int)) (by decide) (tx_isM mw_726) ?_
  intro p e s m args below meth c s₁ B hml hv
  obtain ⟨rfl, hsz, hI0, hK, hst0⟩ := hv
  have hx := B.exec
  have hb := B.bytes
  have hr := B.returns
  have hts := atoms_spec (ws := tw_tbl) B.pre
  have hown : s.vm.findClass "StoryMachine$Aside" = some m.cls := findClass_of_methodNamed B.named
  have hlocks := B.notSynchronized
  subst hsz
  have hst := fun (H : Heap) (locs : List Loc) (hS : va_S (ga (adC a) s.heap.size) s.heap H locs) (U : State) (hU : U.heap = H) (hW : s.WarmedH U.vm) => zS_all adC_map hI0 hst0 hS hU hW
  have hAC : ∀ q ∈ adC a, ga (adC a) s.heap.size q := fun q h => Or.inl h
  have hA0 : ∀ q, s.heap.size ≤ q → ga (adC a) s.heap.size q := fun q h => Or.inr h
  have hI : sI (dC, dI) vcl cI cJ (gsC a he dp co li op wd tl lc sf lf) (ga (adC a) s.heap.size) s.heap s.heap [] := ⟨hI0, va_S.rf⟩
  clear hI0 hst0
  have hl := lv_entry ([.ref (a 20), .ref (a 1), .ref (a 3)]) (n := 3) (Nat.le_of_ble_eq_true rfl)
  rw [lg_entry_eq]
  generalize (lg_sl ([.ref (a 20), .ref (a 1), .ref (a 3)]) ++ List.replicate (3 - (lg_sl ([.ref (a 20), .ref (a 1), .ref (a 3)])).length) Slot.unset).toArray = ls at hl ⊢
  have hl : lv_has ls 3 [(0, .ref (a 20)), (1, .ref (a 1)), (2, .ref (a 3))] := hl
  generalize hZ : tz_MQ below (tq_Q (q_As_bringBack dC dI cI cJ a he dp co li op wd tl lc sf lf) (ga (adC a) s.heap.size)) ([.ref (a 20), .ref (a 1), .ref (a 3)] : List Value).toArray s 0 0 0 0 (ga (adC a) s.heap.size) = Z
  obtain ⟨A, hAe⟩ : ∃ A, A = ga (adC a) s.heap.size := ⟨_, rfl⟩
  rw [← hAe] at hst hAC hA0 hI hZ
  refine sv_start hI (fun H locs hI => ?_)
  obtain ⟨⟨o1, o2⟩, ⟨o3, o4⟩, ⟨o5, o6⟩, ⟨o7, o8⟩, ⟨o9, o10⟩, ⟨o11, o12⟩, ⟨o13, o14⟩, ⟨o15, o16⟩, o17, -⟩ := id hok
  refine lv_aload_n hx hb d_As_bringBack_0 rfl (lv_at hl 1 rfl) ?_
  refine lv_aload_n hx hb d_As_bringBack_1 rfl (lv_at hl 0 rfl) ?_
  refine sv_getr (C := "StoryMachine$Aside") (T := T_As) (N := 4) hx hb hts in_As hown hK hI 20 kC_20 rfl 1 (by decide) (hts _ mw_150) rfl d_As_bringBack_2 ?_
  refine tz_call (A1 := ga (adC a) H.size) (tz_runV (C := "StoryMachine$Memory") (As := [.ref (a 26)]) (rest := []) ⟨hx, hb, hml, hown, hts⟩ (c_Me_copyFrom_1 l hfl dC dI cI cJ a H.size he dp co li op wd tl lc sf lf  hok) (tx_cb (n := 1) hts rfl rfl ⟨Nat.le_of_ble_eq_true rfl, Nat.le_of_ble_eq_true rfl⟩ (tx_code.of (hts _ mw_714)) (hts _ mw_2) (by decide +kernel) (hts _ mw_711)) (hts _ mw_712) (hts _ mw_713) ⟨tz_blind, sv_recv (q0 := 1) hts in_Me hK hI kC_1 rfl, fun U hU hW => ⟨rfl, by rw [hU], by rw [hU]; exact hI.1, va_K.moved hW.alike hK, hst _ _ hI.2 U hU hW⟩⟩ rfl rfl hl.1 rfl (lv_room (Nat.le_of_ble_eq_true rfl)) d_As_bringBack_5 ⟨Nat.le_of_ble_eq_true rfl, Nat.le_of_ble_eq_true rfl⟩) hI.2 (fun q _ h => ga_sub hAC hA0 hI.2 q h) (ga_sub hAC hA0 hI.2) (fun v t H1 locs1 ht hWt hpost _ _ hS => ?_) (fun x t H1 locs1 ht hWt hpost _ _ hS => (hpost.2 x rfl).elim)
  rcases hpost.1 _ rfl with ⟨hv, c18, hI1⟩
  cases hv
  have hI : sI (dC, dI) vcl cI cJ (gsC a he dp co li op wd tl lc sf lf) A s.heap H1 locs1 := ⟨by rw [← ht]; exact hI1, hS⟩
  clear hpost hI1 hS ht hWt
  revert hI; generalize H1 = H; generalize locs1 = locs; intro hI
  refine lv_aload_n hx hb d_As_bringBack_8 rfl (lv_at hl 2 rfl) ?_
  refine lv_aload_n hx hb d_As_bringBack_9 rfl (lv_at hl 0 rfl) ?_
  refine sv_getr (C := "StoryMachine$Aside") (T := T_As) (N := 4) hx hb hts in_As hown hK hI 20 kC_20 rfl 2 (by decide) (hts _ mw_151) rfl d_As_bringBack_10 ?_
  refine tz_call (A1 := ga (adC a) H.size) (tz_runV (C := "StoryMachine$Routines") (As := [.ref (a 27)]) (rest := []) ⟨hx, hb, hml, hown, hts⟩ (c_Ro_copyFrom_3 l hfl dC dI cI cJ a H.size he dp co li op wd tl lc sf lf  c18) (tx_cb (n := 1) hts rfl rfl ⟨Nat.le_of_ble_eq_true rfl, Nat.le_of_ble_eq_true rfl⟩ (tx_code.of (hts _ mw_721)) (hts _ mw_4) (by decide +kernel) (hts _ mw_718)) (hts _ mw_719) (hts _ mw_720) ⟨tz_blind, sv_recv (q0 := 3) hts in_Ro hK hI kC_3 rfl, fun U hU hW => ⟨rfl, by rw [hU], by rw [hU]; exact hI.1, va_K.moved hW.alike hK, hst _ _ hI.2 U hU hW⟩⟩ rfl rfl hl.1 rfl (lv_room (Nat.le_of_ble_eq_true rfl)) d_As_bringBack_13 ⟨Nat.le_of_ble_eq_true rfl, Nat.le_of_ble_eq_true rfl⟩) hI.2 (fun q _ h => ga_sub hAC hA0 hI.2 q h) (ga_sub hAC hA0 hI.2) (fun v t H1 locs1 ht hWt hpost _ _ hS => ?_) (fun x t H1 locs1 ht hWt hpost _ _ hS => (hpost.2 x rfl).elim)
  rcases hpost.1 _ rfl with ⟨t_he19, t_dp20, hv, c21, hI1⟩
  cases hv
  have hI : sI (dC, dI) vcl cI cJ (gsC a t_he19 t_dp20 co li op wd tl lc sf lf) A s.heap H1 locs1 := ⟨by rw [← ht]; exact hI1, hS⟩
  obtain ⟨⟨o22, o23⟩, ⟨o24, o25⟩, -, -, -, -, -, -, -, -⟩ := id c21
  clear hpost hI1 hS ht hWt
  revert hI; generalize H1 = H; generalize locs1 = locs; intro hI
  refine lv_aload_n hx hb d_As_bringBack_16 rfl (lv_at hl 0 rfl) ?_
  refine sv_get (C := "StoryMachine$Aside") (T := T_As) (N := 4) hx hb hts in_As hown hK hI 20 kC_20 rfl 3 (by decide) (hts _ mw_152) rfl d_As_bringBack_17 (fun z26 hz26a hz26b => ?_)
  subst hZ
  exact tz_ret (W.iret (v := z26) hx hb hr (fun t ht hW => ⟨⟨fun v9 hv9 => by cases hv9; exact (⟨z26, t_he19, t_dp20, rfl, c21, by omega, by omega, by rw [ht]; exact hI.1⟩), fun x9 hx9 => (by cases hx9)⟩, hI.2.F ht⟩) hI.2.2.2 d_As_bringBack_20)
