abbrev q_En_readLine (dC : Nat → ClassId) (dI : Nat → Nat → Nat) (cI cJ : ClassId) (a : Nat → Nat) (he dp co li op wd tl lc fo : Int) (sf lf nf : Nat → Int32) (x1 : Int32) (x2 : Int32) : Outcome → State → Prop := fun o t => (∀ v, o = .returned v → ((∃ (wd_ lc_ : Int) (sf_ lf_ : Nat → Int32), v = none ∧ okC he dp co li op wd_ tl lc_ fo sf_ lf_ nf ∧ (x1.toInt ≤ 511) ∧ (x2.toInt ≤ 511) ∧ sh_I (dC, dI) vcl cI cJ (gsC a he dp co li op wd_ tl lc_ fo sf_ lf_ nf) t.heap))) ∧ (∀ x, o = .threw x → ((∃ (wd_ lc_ : Int) (sf_ lf_ : Nat → Int32), ta_Ex "java/lang/IllegalArgumentException" x t ∧ okC he dp co li op wd_ tl lc_ fo sf_ lf_ nf ∧ sh_I (dC, dI) vcl cI cJ (gsC a he dp co li op wd_ tl lc_ fo sf_ lf_ nf) t.heap)))
def rm_En_readLine : Room := { frames := 10, cells := 1, slots := 6, locals := 203 }
set_option maxHeartbeats 4000000 in
set_option maxRecDepth 100000 in
theorem c_En_readLine (l : Launch) (hfl : l.flags = pinnedFlags ++ [noTraceFlag]) (dC : Nat → ClassId) (dI : Nat → Nat → Nat) (cI cJ : ClassId) (a : Nat → Nat) (sz : Nat) (he dp co li op wd tl lc fo : Int) (sf lf nf : Nat → Int32) (x1 : Int32) (x2 : Int32) (hok : okC he dp co li op wd tl lc fo sf lf nf) (hp0 : 0 ≤ x1.toInt) (hp1 : x1.toInt ≤ 65535) (hp2 : 0 ≤ x2.toInt) (hp3 : x2.toInt ≤ 65535) : tz_Met l ⟨"StoryMachine$Engine", "readLine", "(II)V"⟩ tw_tbl rm_En_readLine (tzP (dC, dI) vcl cI cJ (gsC a he dp co li op wd tl lc fo sf lf nf) a (adC a) [.ref (a 5), .int x1, .int x2] sz) (tq_Q (q_En_readLine dC dI cI cJ a he dp co li op wd tl lc fo sf lf nf x1 x2) (ga (adC a) sz)) 0 0 1 6 (ga (adC a) sz) := by
  refine tz_ofW (cc := prog_4_method_19_code) (maxL := 8) (ret := none) (by decide) (tx_isM mw_893) ?_
  intro p e s m args below meth c s₁ B hml hv
  obtain ⟨rfl, hsz, hI0, hK, hst0⟩ := hv
  have hx := B.exec
  have hb := B.bytes
  have hr := B.returns
  have hts := atoms_spec (ws := tw_tbl) B.pre
  have hown : s.vm.findClass "StoryMachine$Engine" = some m.cls := findClass_of_methodNamed B.named
  have hlocks := B.notSynchronized
  subst hsz
  have hst := fun (H : Heap) (locs : List Loc) (hS : va_S (ga (adC a) s.heap.size) s.heap H locs) (U : State) (hU : U.heap = H) (hW : s.WarmedH U.vm) => zS_all adC_map hI0 hst0 hS hU hW
  have hAC : ∀ q ∈ adC a, ga (adC a) s.heap.size q := fun q h => Or.inl h
  have hA0 : ∀ q, s.heap.size ≤ q → ga (adC a) s.heap.size q := fun q h => Or.inr h
  have hI : sI (dC, dI) vcl cI cJ (gsC a he dp co li op wd tl lc fo sf lf nf) (ga (adC a) s.heap.size) s.heap s.heap [] := ⟨hI0, va_S.rf⟩
  clear hI0 hst0
  have hl := lv_entry ([.ref (a 5), .int x1, .int x2]) (n := 8) (Nat.le_of_ble_eq_true rfl)
  rw [lg_entry_eq]
  generalize (lg_sl ([.ref (a 5), .int x1, .int x2]) ++ List.replicate (8 - (lg_sl ([.ref (a 5), .int x1, .int x2])).length) Slot.unset).toArray = ls at hl ⊢
  have hl : lv_has ls 8 [(0, .ref (a 5)), (1, .int x1), (2, .int x2)] := hl
  generalize hZ : tz_MQ below (tq_Q (q_En_readLine dC dI cI cJ a he dp co li op wd tl lc fo sf lf nf x1 x2) (ga (adC a) s.heap.size)) ([.ref (a 5), .int x1, .int x2] : List Value).toArray s 0 0 1 6 (ga (adC a) s.heap.size) = Z
  obtain ⟨A, hAe⟩ : ∃ A, A = ga (adC a) s.heap.size := ⟨_, rfl⟩
  rw [← hAe] at hst hAC hA0 hI hZ
  refine sv_start hI (fun H locs hI => ?_)
  obtain ⟨⟨o1, o2⟩, ⟨o3, o4⟩, ⟨o5, o6⟩, ⟨o7, o8⟩, ⟨o9, o10⟩, ⟨o11, o12⟩, ⟨o13, o14⟩, ⟨o15, o16⟩, ⟨o17, o18⟩, o19, -, -⟩ := id hok
  have gx1 := sn_rng x1
  have gx2 := sn_rng x2
  have j132 : ∀ (n : Nat) (H : Heap) (locs : List Loc) (ls : Array Slot) (v132_3 v132_4 v132_5 v132_6 : Int32) (t132_wd t132_lc : Int) (t132_sf t132_lf : Nat → Int32), sI (dC, dI) vcl cI cJ (gsC a he dp co li op t132_wd tl t132_lc fo t132_sf t132_lf nf) A s.heap H locs → okC he dp co li op t132_wd tl t132_lc fo t132_sf t132_lf nf → 0 ≤ v132_3.toInt → v132_3.toInt ≤ 24 → 0 ≤ v132_4.toInt → v132_4.toInt ≤ 255 → 0 ≤ v132_5.toInt → v132_5.toInt ≤ 24 → 0 ≤ v132_6.toInt → v132_6.toInt ≤ 24 → x1.toInt ≤ 511 → x2.toInt ≤ 511 → lv_has ls 8 [(0, .ref (a 5)), (1, .int x1), (2, .int x2), (3, .int v132_3), (4, .int v132_4), (5, .int v132_5), (6, .int v132_6)] → 24 - v132_6.toInt < (n : Int) → W p l e (headSpec tw_tbl rm_En_readLine).room s m ([.ref (a 5), .int x1, .int x2] : List Value).toArray below meth c H locs 0 0 Z (F0 m 132 ls []) := by
    intro n
    induction n with
    | zero => intro H locs ls v132_3 v132_4 v132_5 v132_6 t132_wd t132_lc t132_sf t132_lf hI hok g132_0 g132_1 g132_2 g132_3 g132_4 g132_5 g132_6 g132_7 g132_8 g132_9 hl hme; exfalso; obtain ⟨⟨o20, o21⟩, ⟨o22, o23⟩, ⟨o24, o25⟩, ⟨o26, o27⟩, ⟨o28, o29⟩, ⟨o30, o31⟩, ⟨o32, o33⟩, ⟨o34, o35⟩, ⟨o36, o37⟩, o38, -, -⟩ := id hok; omega
    | succ n ih =>
      intro H locs ls v132_3 v132_4 v132_5 v132_6 t132_wd t132_lc t132_sf t132_lf hI hok g132_0 g132_1 g132_2 g132_3 g132_4 g132_5 g132_6 g132_7 g132_8 g132_9 hl hme
      obtain ⟨⟨o39, o40⟩, ⟨o41, o42⟩, ⟨o43, o44⟩, ⟨o45, o46⟩, ⟨o47, o48⟩, ⟨o49, o50⟩, ⟨o51, o52⟩, ⟨o53, o54⟩, ⟨o55, o56⟩, o57, -, -⟩ := id hok
      refine lv_iload hx hb d_En_readLine_132 (lv_at hl 6 rfl) ?_
      refine lv_iload hx hb d_En_readLine_134 (lv_at hl 5 rfl) ?_
      refine sn_icmp_ge (tgt := 224) hx hb d_En_readLine_136 (by decide) (fun b58 => ?_) (fun b58 => ?_)
      · subst hZ
        exact tz_ret (W.vret hx hb hr (fun t ht hW => ⟨⟨fun v9 hv9 => by cases hv9; exact (⟨t132_wd, t132_lc, t132_sf, t132_lf, rfl, hok, by omega, by omega, by rw [ht]; exact hI.1⟩), fun x9 hx9 => (by cases hx9)⟩, hI.2.F ht⟩) hI.2.2.2 d_En_readLine_224)
      · refine lv_iload_n hx hb d_En_readLine_139 rfl (lv_at hl 2 rfl) ?_
        refine sn_iconst hx hb d_En_readLine_140 (by decide) (fun z59 hz59 => ?_)
        refine sn_iadd hx hb d_En_readLine_141 (by omega) (by omega) (fun z60 hz60 => ?_)
        refine sn_iconst hx hb d_En_readLine_142 (by decide) (fun z61 hz61 => ?_)
        refine lv_iload hx hb d_En_readLine_143 (lv_at hl 6 rfl) ?_
        refine sn_imulL (k := 4) hx hb d_En_readLine_145 (by omega) (by omega) (by omega) (fun z62 hz62 => ?_)
        refine sn_iadd hx hb d_En_readLine_146 (by omega) (by omega) (fun z63 hz63 => ?_)
        refine lv_istore (lv' := [(7, .int z63), (0, .ref (a 5)), (1, .int x1), (2, .int x2), (3, .int v132_3), (4, .int v132_4), (5, .int v132_5), (6, .int v132_6)]) hx hb d_En_readLine_147 hl (by decide) rfl (fun ls hl => ?_)
        refine lv_aload_n hx hb d_En_readLine_149 rfl (lv_at hl 1 rfl) ?_
        refine sv_getr (C := "StoryMachine$Engine") (T := T_En) (N := 15) hx hb hts in_En hown hK hI 5 kC_5 rfl 0 (by decide) (hts _ mw_261) rfl d_En_readLine_150 ?_
        refine lv_iload hx hb d_En_readLine_153 (lv_at hl 0 rfl) ?_
        refine lv_aload_n hx hb d_En_readLine_155 rfl (lv_at hl 1 rfl) ?_
        refine sv_getr (C := "StoryMachine$Engine") (T := T_En) (N := 15) hx hb hts in_En hown hK hI 5 kC_5 rfl 6 (by decide) (hts _ mw_267) rfl d_En_readLine_156 ?_
        refine lv_aload_n hx hb d_En_readLine_159 rfl (lv_at hl 1 rfl) ?_
        refine sv_getr (C := "StoryMachine$Engine") (T := T_En) (N := 15) hx hb hts in_En hown hK hI 5 kC_5 rfl 1 (by decide) (hts _ mw_262) rfl d_En_readLine_160 ?_
        refine sv_getr (C := "StoryMachine$Line") (T := T_Li) (N := 5) hx hb hts in_Li hown hK hI 2 kC_2 rfl 2 (by decide) (hts _ mw_58) rfl d_En_readLine_163 ?_
        refine lv_iload hx hb d_En_readLine_166 (lv_at hl 7 rfl) ?_
        refine tz_call (A1 := ga (adC a) H.size) (tz_runV (C := "StoryMachine$Dictionary") (As := [.ref (a 8), .int v132_6]) (rest := [.int z63, .ref (a 1)]) ⟨hx, hb, hml, hown, hts⟩ (c_Di_entryOf l hfl dC dI cI cJ a H.size he dp co li op t132_wd tl t132_lc fo t132_sf t132_lf nf v132_6 hok (by omega) (by omega)) (tx_cb (n := 2) hts rfl rfl ⟨Nat.le_of_ble_eq_true rfl, Nat.le_of_ble_eq_true rfl⟩ (tx_code.of (hts _ mw_914)) (hts _ mw_10) (by decide +kernel) (hts _ mw_911)) (hts _ mw_912) (hts _ mw_913) ⟨tz_blind, sv_recv (q0 := 18) hts in_Di hK hI kC_18 rfl, fun U hU hW => ⟨rfl, by rw [hU], by rw [hU]; exact hI.1, va_K.moved hW.alike hK, hst _ _ hI.2 U hU hW⟩⟩ rfl rfl hl.1 rfl (lv_room (Nat.le_of_ble_eq_true rfl)) d_En_readLine_168 ⟨Nat.le_of_ble_eq_true rfl, Nat.le_of_ble_eq_true rfl⟩) hI.2 (fun q _ h => ga_sub hAC hA0 hI.2 q h) (ga_sub hAC hA0 hI.2) (fun v t H1 locs1 ht hWt hpost _ _ hS => ?_) (fun x t H1 locs1 ht hWt hpost _ _ hS => ?_)
        · rcases hpost.1 _ rfl with ⟨z64, t_lc65, hv, c66, c66_0, c66_1, hI1⟩
          cases hv
          have hI : sI (dC, dI) vcl cI cJ (gsC a he dp co li op t132_wd tl t_lc65 fo t132_sf t132_lf nf) A s.heap H1 locs1 := ⟨by rw [← ht]; exact hI1, hS⟩
          obtain ⟨-, -, -, -, -, -, -, ⟨o67, o68⟩, -, -, -, -⟩ := id c66
          clear hpost hI1 hS ht hWt
          revert hI; generalize H1 = H; generalize locs1 = locs; intro hI
          refine tz_call (A1 := ga (adC a) H.size) (tz_runV (C := "StoryMachine$Memory") (As := [.int z63, .int z64]) (rest := []) ⟨hx, hb, hml, hown, hts⟩ (c_Me_writeWord l hfl dC dI cI cJ a H.size he dp co li op t132_wd tl t_lc65 fo t132_sf t132_lf nf z63 z64 c66) (tx_cb (n := 2) hts rfl rfl ⟨Nat.le_of_ble_eq_true rfl, Nat.le_of_ble_eq_true rfl⟩ (tx_code.of (hts _ mw_636)) (hts _ mw_2) (by decide +kernel) (hts _ mw_883)) (hts _ mw_634) (hts _ mw_635) ⟨tz_blind, sv_recv (q0 := 1) hts in_Me hK hI kC_1 rfl, fun U hU hW => ⟨rfl, by rw [hU], by rw [hU]; exact hI.1, va_K.moved hW.alike hK, hst _ _ hI.2 U hU hW⟩⟩ rfl rfl hl.1 rfl (lv_room (Nat.le_of_ble_eq_true rfl)) d_En_readLine_171 ⟨Nat.le_of_ble_eq_true rfl, Nat.le_of_ble_eq_true rfl⟩) hI.2 (fun q _ h => ga_sub hAC hA0 hI.2 q h) (ga_sub hAC hA0 hI.2) (fun v t H1 locs1 ht hWt hpost _ _ hS => ?_) (fun x t H1 locs1 ht hWt hpost _ _ hS => ?_)
          · rcases hpost.1 _ rfl with ⟨hv, c69, c69_0, c69_1, hI1⟩
            cases hv
            have hI : sI (dC, dI) vcl cI cJ (gsC a he dp co li op t132_wd tl t_lc65 fo t132_sf t132_lf nf) A s.heap H1 locs1 := ⟨by rw [← ht]; exact hI1, hS⟩
            clear hpost hI1 hS ht hWt
            revert hI; generalize H1 = H; generalize locs1 = locs; intro hI
            refine lv_aload_n hx hb d_En_readLine_174 rfl (lv_at hl 1 rfl) ?_
            refine sv_getr (C := "StoryMachine$Engine") (T := T_En) (N := 15) hx hb hts in_En hown hK hI 5 kC_5 rfl 0 (by decide) (hts _ mw_261) rfl d_En_readLine_175 ?_
            refine lv_iload hx hb d_En_readLine_178 (lv_at hl 0 rfl) ?_
            refine sn_iconst hx hb d_En_readLine_180 (by decide) (fun z70 hz70 => ?_)
            refine sn_iadd hx hb d_En_readLine_181 (by omega) (by omega) (fun z71 hz71 => ?_)
            refine lv_aload_n hx hb d_En_readLine_182 rfl (lv_at hl 1 rfl) ?_
            refine sv_getr (C := "StoryMachine$Engine") (T := T_En) (N := 15) hx hb hts in_En hown hK hI 5 kC_5 rfl 6 (by decide) (hts _ mw_267) rfl d_En_readLine_183 ?_
            refine sv_getr (C := "StoryMachine$Dictionary") (T := T_Di) (N := 6) hx hb hts in_Di hown hK hI 18 kC_18 rfl 2 (by decide) (hts _ mw_195) rfl d_En_readLine_186 ?_
            refine lv_iload hx hb d_En_readLine_189 (lv_at hl 7 rfl) ?_
            refine sv_ialde hx hb hK hI 23 kC_23 (by omega) (by omega) d_En_readLine_191 (fun z72 hz72 => ?_)
            have hz72r := c69.2.2.2.2.2.2.2.2.2.2.1 (v132_6.toNatClampNeg)
            rw [← hz72] at hz72r
            have hz72x : z72.toInt = (t132_lf v132_6.toInt.toNat).toInt := by rw [hz72]; rfl
            have hz72w : z72.toInt = (t132_lf v132_6.toNatClampNeg).toInt := by rw [hz72]
            refine tz_call (A1 := ga (adC a) H.size) (tz_runV (C := "StoryMachine$Memory") (As := [.int z71, .int z72]) (rest := []) ⟨hx, hb, hml, hown, hts⟩ (c_Me_writeByte l hfl dC dI cI cJ a H.size he dp co li op t132_wd tl t_lc65 fo t132_sf t132_lf nf z71 z72 c69) (tx_cb (n := 2) hts rfl rfl ⟨Nat.le_of_ble_eq_true rfl, Nat.le_of_ble_eq_true rfl⟩ (tx_code.of (hts _ mw_781)) (hts _ mw_2) (by decide +kernel) (hts _ mw_884)) (hts _ mw_779) (hts _ mw_780) ⟨tz_blind, sv_recv (q0 := 1) hts in_Me hK hI kC_1 rfl, fun U hU hW => ⟨rfl, by rw [hU], by rw [hU]; exact hI.1, va_K.moved hW.alike hK, hst _ _ hI.2 U hU hW⟩⟩ rfl rfl hl.1 rfl (lv_room (Nat.le_of_ble_eq_true rfl)) d_En_readLine_192 ⟨Nat.le_of_ble_eq_true rfl, Nat.le_of_ble_eq_true rfl⟩) hI.2 (fun q _ h => ga_sub hAC hA0 hI.2 q h) (ga_sub hAC hA0 hI.2) (fun v t H1 locs1 ht hWt hpost _ _ hS => ?_) (fun x t H1 locs1 ht hWt hpost _ _ hS => ?_)
            · rcases hpost.1 _ rfl with ⟨hv, c73, c73_0, c73_1, hI1⟩
              cases hv
              have hI : sI (dC, dI) vcl cI cJ (gsC a he dp co li op t132_wd tl t_lc65 fo t132_sf t132_lf nf) A s.heap H1 locs1 := ⟨by rw [← ht]; exact hI1, hS⟩
              clear hpost hI1 hS ht hWt
              revert hI; generalize H1 = H; generalize locs1 = locs; intro hI
              refine lv_aload_n hx hb d_En_readLine_195 rfl (lv_at hl 1 rfl) ?_
              refine sv_getr (C := "StoryMachine$Engine") (T := T_En) (N := 15) hx hb hts in_En hown hK hI 5 kC_5 rfl 0 (by decide) (hts _ mw_261) rfl d_En_readLine_196 ?_
              refine lv_iload hx hb d_En_readLine_199 (lv_at hl 0 rfl) ?_
              refine sn_iconst hx hb d_En_readLine_201 (by decide) (fun z74 hz74 => ?_)
              refine sn_iadd hx hb d_En_readLine_202 (by omega) (by omega) (fun z75 hz75 => ?_)
              refine lv_aload_n hx hb d_En_readLine_203 rfl (lv_at hl 1 rfl) ?_
              refine sv_getr (C := "StoryMachine$Engine") (T := T_En) (N := 15) hx hb hts in_En hown hK hI 5 kC_5 rfl 6 (by decide) (hts _ mw_267) rfl d_En_readLine_204 ?_
              refine sv_getr (C := "StoryMachine$Dictionary") (T := T_Di) (N := 6) hx hb hts in_Di hown hK hI 18 kC_18 rfl 1 (by decide) (hts _ mw_193) rfl d_En_readLine_207 ?_
              refine lv_iload hx hb d_En_readLine_210 (lv_at hl 7 rfl) ?_
              refine sv_ialde hx hb hK hI 22 kC_22 (by omega) (by omega) d_En_readLine_212 (fun z76 hz76 => ?_)
              have hz76r := c73.2.2.2.2.2.2.2.2.2.2.1 (v132_6.toNatClampNeg)
              rw [← hz76] at hz76r
              have hz76x : z76.toInt = (t132_sf v132_6.toInt.toNat).toInt := by rw [hz76]; rfl
              have hz76w : z76.toInt = (t132_sf v132_6.toNatClampNeg).toInt := by rw [hz76]
              refine sn_iconst hx hb d_En_readLine_213 (by decide) (fun z77 hz77 => ?_)
              refine sn_iadd hx hb d_En_readLine_214 (by omega) (by omega) (fun z78 hz78 => ?_)
              refine tz_call (A1 := ga (adC a) H.size) (tz_runV (C := "StoryMachine$Memory") (As := [.int z75, .int z78]) (rest := []) ⟨hx, hb, hml, hown, hts⟩ (c_Me_writeByte l hfl dC dI cI cJ a H.size he dp co li op t132_wd tl t_lc65 fo t132_sf t132_lf nf z75 z78 c73) (tx_cb (n := 2) hts rfl rfl ⟨Nat.le_of_ble_eq_true rfl, Nat.le_of_ble_eq_true rfl⟩ (tx_code.of (hts _ mw_781)) (hts _ mw_2) (by decide +kernel) (hts _ mw_884)) (hts _ mw_779) (hts _ mw_780) ⟨tz_blind, sv_recv (q0 := 1) hts in_Me hK hI kC_1 rfl, fun U hU hW => ⟨rfl, by rw [hU], by rw [hU]; exact hI.1, va_K.moved hW.alike hK, hst _ _ hI.2 U hU hW⟩⟩ rfl rfl hl.1 rfl (lv_room (Nat.le_of_ble_eq_true rfl)) d_En_readLine_215 ⟨Nat.le_of_ble_eq_true rfl, Nat.le_of_ble_eq_true rfl⟩) hI.2 (fun q _ h => ga_sub hAC hA0 hI.2 q h) (ga_sub hAC hA0 hI.2) (fun v t H1 locs1 ht hWt hpost _ _ hS => ?_) (fun x t H1 locs1 ht hWt hpost _ _ hS => ?_)
              · rcases hpost.1 _ rfl with ⟨hv, c79, c79_0, c79_1, hI1⟩
                cases hv
                have hI : sI (dC, dI) vcl cI cJ (gsC a he dp co li op t132_wd tl t_lc65 fo t132_sf t132_lf nf) A s.heap H1 locs1 := ⟨by rw [← ht]; exact hI1, hS⟩
                clear hpost hI1 hS ht hWt
                revert hI; generalize H1 = H; generalize locs1 = locs; intro hI
                refine sn_iinc (k := 7) hx hb d_En_readLine_218 hl rfl (by decide) (by decide) (by omega) (by omega) (fun ls z80 hz80 hl => ?_)
                have hl : lv_has ls 8 [(6, .int z80), (7, .int z63), (0, .ref (a 5)), (1, .int x1), (2, .int x2), (3, .int v132_3), (4, .int v132_4), (5, .int v132_5)] := hl
                refine lv_goto (tgt := 132) hx hb d_En_readLine_221 (by decide) ?_
                exact ih _ _ _ v132_3 v132_4 v132_5 z80 t132_wd t_lc65 t132_sf t132_lf hI c79 (by omega) (by omega) (by omega) (by omega) (by omega) (by omega) (by omega) (by omega) (by omega) (by omega) (lv_sub hl [2, 3, 4, 5, 6, 7, 0] rfl) (by omega)
              · rcases hpost.2 _ rfl with ⟨hex, c81, hI1⟩
                have hI : sI (dC, dI) vcl cI cJ (gsC a he dp co li op t132_wd tl t_lc65 fo t132_sf t132_lf nf) A s.heap H1 locs1 := ⟨by rw [← ht]; exact hI1, hS⟩
                refine tz_widen (k := 1) (n := 6) (Nat.le_of_ble_eq_true rfl) (Nat.le_of_ble_eq_true rfl) ?_
                subst hZ
                exact tz_leave (tx_noH B (hts _ mw_893) _) (fun t9 ht9 hW9 => ⟨⟨fun v9 hv9 => (by cases hv9), fun x9 hx9 => by cases hx9; exact (⟨t132_wd, t_lc65, t132_sf, t132_lf, ta_exm hex ht ht9 hWt hW9, c81, by rw [ht9]; exact hI.1⟩)⟩, hI.2.F ht9⟩) hI.2.2.2 hlocks
            · rcases hpost.2 _ rfl with ⟨hex, c82, hI1⟩
              have hI : sI (dC, dI) vcl cI cJ (gsC a he dp co li op t132_wd tl t_lc65 fo t132_sf t132_lf nf) A s.heap H1 locs1 := ⟨by rw [← ht]; exact hI1, hS⟩
              refine tz_widen (k := 1) (n := 6) (Nat.le_of_ble_eq_true rfl) (Nat.le_of_ble_eq_true rfl) ?_
              subst hZ
              exact tz_leave (tx_noH B (hts _ mw_893) _) (fun t9 ht9 hW9 => ⟨⟨fun v9 hv9 => (by cases hv9), fun x9 hx9 => by cases hx9; exact (⟨t132_wd, t_lc65, t132_sf, t132_lf, ta_exm hex ht ht9 hWt hW9, c82, by rw [ht9]; exact hI.1⟩)⟩, hI.2.F ht9⟩) hI.2.2.2 hlocks
          · rcases hpost.2 _ rfl with ⟨hex, c83, hI1⟩
            have hI : sI (dC, dI) vcl cI cJ (gsC a he dp co li op t132_wd tl t_lc65 fo t132_sf t132_lf nf) A s.heap H1 locs1 := ⟨by rw [← ht]; exact hI1, hS⟩
            refine tz_widen (k := 1) (n := 6) (Nat.le_of_ble_eq_true rfl) (Nat.le_of_ble_eq_true rfl) ?_
            subst hZ
            exact tz_leave (tx_noH B (hts _ mw_893) _) (fun t9 ht9 hW9 => ⟨⟨fun v9 hv9 => (by cases hv9), fun x9 hx9 => by cases hx9; exact (⟨t132_wd, t_lc65, t132_sf, t132_lf, ta_exm hex ht ht9 hWt hW9, c83, by rw [ht9]; exact hI.1⟩)⟩, hI.2.F ht9⟩) hI.2.2.2 hlocks
        · rcases hpost.2 _ rfl with ⟨t_lc84, hex, c85, hI1⟩
          have hI : sI (dC, dI) vcl cI cJ (gsC a he dp co li op t132_wd tl t_lc84 fo t132_sf t132_lf nf) A s.heap H1 locs1 := ⟨by rw [← ht]; exact hI1, hS⟩
          obtain ⟨-, -, -, -, -, -, -, ⟨o86, o87⟩, -, -, -, -⟩ := id c85
          refine tz_widen (k := 1) (n := 6) (Nat.le_of_ble_eq_true rfl) (Nat.le_of_ble_eq_true rfl) ?_
          subst hZ
          exact tz_leave (tx_noH B (hts _ mw_893) _) (fun t9 ht9 hW9 => ⟨⟨fun v9 hv9 => (by cases hv9), fun x9 hx9 => by cases hx9; exact (⟨t132_wd, t_lc84, t132_sf, t132_lf, ta_exm hex ht ht9 hWt hW9, c85, by rw [ht9]; exact hI.1⟩)⟩, hI.2.F ht9⟩) hI.2.2.2 hlocks
  have j22 : ∀ (n : Nat) (H : Heap) (locs : List Loc) (ls : Array Slot) (v22_3 v22_4 : Int32), sI (dC, dI) vcl cI cJ (gsC a he dp co li op wd tl lc fo sf lf nf) A s.heap H locs → okC he dp co li op wd tl lc fo sf lf nf → 0 ≤ v22_3.toInt → v22_3.toInt ≤ 24 → 0 ≤ v22_4.toInt → v22_4.toInt ≤ 24 → x1.toInt ≤ 511 → lv_has ls 8 [(0, .ref (a 5)), (1, .int x1), (2, .int x2), (3, .int v22_3), (4, .int v22_4)] → 24 - v22_4.toInt < (n : Int) → W p l e (headSpec tw_tbl rm_En_readLine).room s m ([.ref (a 5), .int x1, .int x2] : List Value).toArray below meth c H locs 0 0 Z (F0 m 22 ls []) := by
    intro n
    induction n with
    | zero => intro H locs ls v22_3 v22_4 hI hok g22_0 g22_1 g22_2 g22_3 g22_4 hl hme; exfalso; obtain ⟨⟨o88, o89⟩, ⟨o90, o91⟩, ⟨o92, o93⟩, ⟨o94, o95⟩, ⟨o96, o97⟩, ⟨o98, o99⟩, ⟨o100, o101⟩, ⟨o102, o103⟩, ⟨o104, o105⟩, o106, -, -⟩ := id hok; omega
    | succ n ih =>
      intro H locs ls v22_3 v22_4 hI hok g22_0 g22_1 g22_2 g22_3 g22_4 hl hme
      obtain ⟨⟨o107, o108⟩, ⟨o109, o110⟩, ⟨o111, o112⟩, ⟨o113, o114⟩, ⟨o115, o116⟩, ⟨o117, o118⟩, ⟨o119, o120⟩, ⟨o121, o122⟩, ⟨o123, o124⟩, o125, -, -⟩ := id hok
      refine lv_iload hx hb d_En_readLine_22 (lv_at hl 4 rfl) ?_
      refine lv_iload_n hx hb d_En_readLine_24 rfl (lv_at hl 3 rfl) ?_
      refine sn_icmp_ge (tgt := 57) hx hb d_En_readLine_25 (by decide) (fun b126 => ?_) (fun b126 => ?_)
      · refine lv_aload_n hx hb d_En_readLine_57 rfl (lv_at hl 0 rfl) ?_
        refine sv_getr (C := "StoryMachine$Engine") (T := T_En) (N := 15) hx hb hts in_En hown hK hI 5 kC_5 rfl 0 (by decide) (hts _ mw_261) rfl d_En_readLine_58 ?_
        refine lv_iload_n hx hb d_En_readLine_61 rfl (lv_at hl 1 rfl) ?_
        refine sn_iconst hx hb d_En_readLine_62 (by decide) (fun z127 hz127 => ?_)
        refine sn_iadd hx hb d_En_readLine_63 (by omega) (by omega) (fun z128 hz128 => ?_)
        refine lv_iload_n hx hb d_En_readLine_64 rfl (lv_at hl 3 rfl) ?_
        refine sn_iadd hx hb d_En_readLine_65 (by omega) (by omega) (fun z129 hz129 => ?_)
        refine sn_iconst hx hb d_En_readLine_66 (by decide) (fun z130 hz130 => ?_)
        refine tz_call (A1 := ga (adC a) H.size) (tz_runV (C := "StoryMachine$Memory") (As := [.int z129, .int z130]) (rest := []) ⟨hx, hb, hml, hown, hts⟩ (c_Me_writeByte l hfl dC dI cI cJ a H.size he dp co li op wd tl lc fo sf lf nf z129 z130 hok) (tx_cb (n := 2) hts rfl rfl ⟨Nat.le_of_ble_eq_true rfl, Nat.le_of_ble_eq_true rfl⟩ (tx_code.of (hts _ mw_781)) (hts _ mw_2) (by decide +kernel) (hts _ mw_884)) (hts _ mw_779) (hts _ mw_780) ⟨tz_blind, sv_recv (q0 := 1) hts in_Me hK hI kC_1 rfl, fun U hU hW => ⟨rfl, by rw [hU], by rw [hU]; exact hI.1, va_K.moved hW.alike hK, hst _ _ hI.2 U hU hW⟩⟩ rfl rfl hl.1 rfl (lv_room (Nat.le_of_ble_eq_true rfl)) d_En_readLine_67 ⟨Nat.le_of_ble_eq_true rfl, Nat.le_of_ble_eq_true rfl⟩) hI.2 (fun q _ h => ga_sub hAC hA0 hI.2 q h) (ga_sub hAC hA0 hI.2) (fun v t H1 locs1 ht hWt hpost _ _ hS => ?_) (fun x t H1 locs1 ht hWt hpost _ _ hS => ?_)
        · rcases hpost.1 _ rfl with ⟨hv, c131, c131_0, c131_1, hI1⟩
          cases hv
          have hI : sI (dC, dI) vcl cI cJ (gsC a he dp co li op wd tl lc fo sf lf nf) A s.heap H1 locs1 := ⟨by rw [← ht]; exact hI1, hS⟩
          clear hpost hI1 hS ht hWt
          revert hI; generalize H1 = H; generalize locs1 = locs; intro hI
          refine lv_aload_n hx hb d_En_readLine_70 rfl (lv_at hl 0 rfl) ?_
          refine sv_getr (C := "StoryMachine$Engine") (T := T_En) (N := 15) hx hb hts in_En hown hK hI 5 kC_5 rfl 1 (by decide) (hts _ mw_262) rfl d_En_readLine_71 ?_
          refine sn_iconst hx hb d_En_readLine_74 (by decide) (fun z132 hz132 => ?_)
          refine sv_put (C := "StoryMachine$Line") (T := T_Li) (N := 5) (ty := .boolean) hx hb hts in_Li t_Li tk_Li nm_Li hown hK (sh_in adC_map hAC) hI 2 kC_2 rfl 4 (by decide) (hts _ mw_62) rfl (by decide +kernel) (sn_bool (by omega) (by omega)).1 (sn_bool (by omega) (by omega)).2 (Nat.le_of_ble_eq_true rfl) (by omega) (by omega) pC_2_4 d_En_readLine_75 (fun H locs hI => ?_)
          refine lv_aload_n hx hb d_En_readLine_78 rfl (lv_at hl 0 rfl) ?_
          refine sv_getr (C := "StoryMachine$Engine") (T := T_En) (N := 15) hx hb hts in_En hown hK hI 5 kC_5 rfl 0 (by decide) (hts _ mw_261) rfl d_En_readLine_79 ?_
          refine lv_iload_n hx hb d_En_readLine_82 rfl (lv_at hl 2 rfl) ?_
          refine tz_call (A1 := ga (adC a) H.size) (tz_runV (C := "StoryMachine$Memory") (As := [.int x2]) (rest := []) ⟨hx, hb, hml, hown, hts⟩ (c_Me_byteAt l hfl dC dI cI cJ a H.size he dp co li op wd tl lc fo sf lf nf x2 c131) (tx_cb (n := 1) hts rfl rfl ⟨Nat.le_of_ble_eq_true rfl, Nat.le_of_ble_eq_true rfl⟩ (tx_code.of (hts _ mw_511)) (hts _ mw_2) (by decide +kernel) (hts _ mw_790)) (hts _ mw_509) (hts _ mw_510) ⟨tz_blind, sv_recv (q0 := 1) hts in_Me hK hI kC_1 rfl, fun U hU hW => ⟨rfl, by rw [hU], by rw [hU]; exact hI.1, va_K.moved hW.alike hK, hst _ _ hI.2 U hU hW⟩⟩ rfl rfl hl.1 rfl (lv_room (Nat.le_of_ble_eq_true rfl)) d_En_readLine_83 ⟨Nat.le_of_ble_eq_true rfl, Nat.le_of_ble_eq_true rfl⟩) hI.2 (fun q _ h => ga_sub hAC hA0 hI.2 q h) (ga_sub hAC hA0 hI.2) (fun v t H1 locs1 ht hWt hpost _ _ hS => ?_) (fun x t H1 locs1 ht hWt hpost _ _ hS => ?_)
          · rcases hpost.1 _ rfl with ⟨z133, hv, c134, c134_0, c134_1, c134_2, c134_3, hI1⟩
            cases hv
            have hI : sI (dC, dI) vcl cI cJ (gsC a he dp co li op wd tl lc fo sf lf nf) A s.heap H1 locs1 := ⟨by rw [← ht]; exact hI1, hS⟩
            clear hpost hI1 hS ht hWt
            revert hI; generalize H1 = H; generalize locs1 = locs; intro hI
            refine lv_istore (lv' := [(4, .int z133), (0, .ref (a 5)), (1, .int x1), (2, .int x2), (3, .int v22_3)]) hx hb d_En_readLine_86 hl (by decide) rfl (fun ls hl => ?_)
            refine lv_aload_n hx hb d_En_readLine_88 rfl (lv_at hl 1 rfl) ?_
            refine sv_getr (C := "StoryMachine$Engine") (T := T_En) (N := 15) hx hb hts in_En hown hK hI 5 kC_5 rfl 6 (by decide) (hts _ mw_267) rfl d_En_readLine_89 ?_
            refine lv_aload_n hx hb d_En_readLine_92 rfl (lv_at hl 1 rfl) ?_
            refine sv_getr (C := "StoryMachine$Engine") (T := T_En) (N := 15) hx hb hts in_En hown hK hI 5 kC_5 rfl 1 (by decide) (hts _ mw_262) rfl d_En_readLine_93 ?_
            refine sv_getr (C := "StoryMachine$Line") (T := T_Li) (N := 5) hx hb hts in_Li hown hK hI 2 kC_2 rfl 2 (by decide) (hts _ mw_58) rfl d_En_readLine_96 ?_
            refine lv_iload_n hx hb d_En_readLine_99 rfl (lv_at hl 4 rfl) ?_
            refine tz_call (A1 := ga (adC a) H.size) (tz_runV (C := "StoryMachine$Dictionary") (As := [.ref (a 8), .int v22_3]) (rest := []) ⟨hx, hb, hml, hown, hts⟩ (c_Di_split l hfl dC dI cI cJ a H.size he dp co li op wd tl lc fo sf lf nf v22_3 c134 (by omega) (by omega)) (tx_cb (n := 2) hts rfl rfl ⟨Nat.le_of_ble_eq_true rfl, Nat.le_of_ble_eq_true rfl⟩ (tx_code.of (hts _ mw_900)) (hts _ mw_10) (by decide +kernel) (hts _ mw_897)) (hts _ mw_898) (hts _ mw_899) ⟨tz_blind, sv_recv (q0 := 18) hts in_Di hK hI kC_18 rfl, fun U hU hW => ⟨rfl, by rw [hU], by rw [hU]; exact hI.1, va_K.moved hW.alike hK, hst _ _ hI.2 U hU hW⟩⟩ rfl rfl hl.1 rfl (lv_room (Nat.le_of_ble_eq_true rfl)) d_En_readLine_100 ⟨Nat.le_of_ble_eq_true rfl, Nat.le_of_ble_eq_true rfl⟩) hI.2 (fun q _ h => ga_sub hAC hA0 hI.2 q h) (ga_sub hAC hA0 hI.2) (fun v t H1 locs1 ht hWt hpost _ _ hS => ?_) (fun x t H1 locs1 ht hWt hpost _ _ hS => ?_)
            · rcases hpost.1 _ rfl with ⟨t_wd135, f_sf136, f_lf137, hv, c138, hI1⟩
              cases hv
              have hI : sI (dC, dI) vcl cI cJ (gsC a he dp co li op t_wd135 tl lc fo f_sf136 f_lf137 nf) A s.heap H1 locs1 := ⟨by rw [← ht]; exact hI1, hS⟩
              obtain ⟨-, -, -, -, -, ⟨o139, o140⟩, -, -, -, -, -, -⟩ := id c138
              clear hpost hI1 hS ht hWt
              revert hI; generalize H1 = H; generalize locs1 = locs; intro hI
              refine lv_iload hx hb d_En_readLine_103 (lv_at hl 0 rfl) ?_
              refine lv_aload_n hx hb d_En_readLine_105 rfl (lv_at hl 1 rfl) ?_
              refine sv_getr (C := "StoryMachine$Engine") (T := T_En) (N := 15) hx hb hts in_En hown hK hI 5 kC_5 rfl 6 (by decide) (hts _ mw_267) rfl d_En_readLine_106 ?_
              refine sv_gete (C := "StoryMachine$Dictionary") (T := T_Di) (N := 6) hx hb hts in_Di hown hK hI 18 kC_18 rfl 3 (by decide) (hts _ mw_197) rfl d_En_readLine_109 (fun z141 hz141 => ?_)
              refine sj_min hx hb (by rw [hml]; exact hl.1.symm) hown (hts _ mw_894) (hts _ mw_895) (hts _ mw_25) (hts _ mw_896) (Nat.le_of_ble_eq_true rfl) (Nat.le_of_ble_eq_true rfl) (Nat.le_of_ble_eq_true rfl) (Nat.le_of_ble_eq_true rfl) d_En_readLine_112 (fun z142 hz142a hz142b hz142c => ?_)
              refine lv_istore (lv' := [(5, .int z142), (4, .int z133), (0, .ref (a 5)), (1, .int x1), (2, .int x2), (3, .int v22_3)]) hx hb d_En_readLine_115 hl (by decide) rfl (fun ls hl => ?_)
              refine lv_aload_n hx hb d_En_readLine_117 rfl (lv_at hl 2 rfl) ?_
              refine sv_getr (C := "StoryMachine$Engine") (T := T_En) (N := 15) hx hb hts in_En hown hK hI 5 kC_5 rfl 0 (by decide) (hts _ mw_261) rfl d_En_readLine_118 ?_
              refine lv_iload_n hx hb d_En_readLine_121 rfl (lv_at hl 4 rfl) ?_
              refine sn_iconst hx hb d_En_readLine_122 (by decide) (fun z143 hz143 => ?_)
              refine sn_iadd hx hb d_En_readLine_123 (by omega) (by omega) (fun z144 hz144 => ?_)
              refine lv_iload hx hb d_En_readLine_124 (lv_at hl 0 rfl) ?_
              refine tz_call (A1 := ga (adC a) H.size) (tz_runV (C := "StoryMachine$Memory") (As := [.int z144, .int z142]) (rest := []) ⟨hx, hb, hml, hown, hts⟩ (c_Me_writeByte l hfl dC dI cI cJ a H.size he dp co li op t_wd135 tl lc fo f_sf136 f_lf137 nf z144 z142 c138) (tx_cb (n := 2) hts rfl rfl ⟨Nat.le_of_ble_eq_true rfl, Nat.le_of_ble_eq_true rfl⟩ (tx_code.of (hts _ mw_781)) (hts _ mw_2) (by decide +kernel) (hts _ mw_884)) (hts _ mw_779) (hts _ mw_780) ⟨tz_blind, sv_recv (q0 := 1) hts in_Me hK hI kC_1 rfl, fun U hU hW => ⟨rfl, by rw [hU], by rw [hU]; exact hI.1, va_K.moved hW.alike hK, hst _ _ hI.2 U hU hW⟩⟩ rfl rfl hl.1 rfl (lv_room (Nat.le_of_ble_eq_true rfl)) d_En_readLine_126 ⟨Nat.le_of_ble_eq_true rfl, Nat.le_of_ble_eq_true rfl⟩) hI.2 (fun q _ h => ga_sub hAC hA0 hI.2 q h) (ga_sub hAC hA0 hI.2) (fun v t H1 locs1 ht hWt hpost _ _ hS => ?_) (fun x t H1 locs1 ht hWt hpost _ _ hS => ?_)
              · rcases hpost.1 _ rfl with ⟨hv, c145, c145_0, c145_1, hI1⟩
                cases hv
                have hI : sI (dC, dI) vcl cI cJ (gsC a he dp co li op t_wd135 tl lc fo f_sf136 f_lf137 nf) A s.heap H1 locs1 := ⟨by rw [← ht]; exact hI1, hS⟩
                clear hpost hI1 hS ht hWt
                revert hI; generalize H1 = H; generalize locs1 = locs; intro hI
                refine sn_iconst hx hb d_En_readLine_129 (by decide) (fun z146 hz146 => ?_)
                refine lv_istore (lv' := [(6, .int z146), (5, .int z142), (4, .int z133), (0, .ref (a 5)), (1, .int x1), (2, .int x2), (3, .int v22_3)]) hx hb d_En_readLine_130 hl (by decide) rfl (fun ls hl => ?_)
                exact j132 25 _ _ _ v22_3 z133 z142 z146 t_wd135 lc f_sf136 f_lf137 hI c145 (by omega) (by omega) (by omega) (by omega) (by omega) (by omega) (by omega) (by omega) (by omega) (by omega) (lv_sub hl [3, 4, 5, 6, 2, 1, 0] rfl) (by omega)
              · rcases hpost.2 _ rfl with ⟨hex, c147, hI1⟩
                have hI : sI (dC, dI) vcl cI cJ (gsC a he dp co li op t_wd135 tl lc fo f_sf136 f_lf137 nf) A s.heap H1 locs1 := ⟨by rw [← ht]; exact hI1, hS⟩
                refine tz_widen (k := 1) (n := 6) (Nat.le_of_ble_eq_true rfl) (Nat.le_of_ble_eq_true rfl) ?_
                subst hZ
                exact tz_leave (tx_noH B (hts _ mw_893) _) (fun t9 ht9 hW9 => ⟨⟨fun v9 hv9 => (by cases hv9), fun x9 hx9 => by cases hx9; exact (⟨t_wd135, lc, f_sf136, f_lf137, ta_exm hex ht ht9 hWt hW9, c147, by rw [ht9]; exact hI.1⟩)⟩, hI.2.F ht9⟩) hI.2.2.2 hlocks
            · rcases hpost.2 _ rfl with ⟨t_wd148, f_sf149, f_lf150, hex, c151, c151_0, hI1⟩
              have hI : sI (dC, dI) vcl cI cJ (gsC a he dp co li op t_wd148 tl lc fo f_sf149 f_lf150 nf) A s.heap H1 locs1 := ⟨by rw [← ht]; exact hI1, hS⟩
              obtain ⟨-, -, -, -, -, ⟨o152, o153⟩, -, -, -, -, -, -⟩ := id c151
              refine tz_widen (k := 1) (n := 6) (Nat.le_of_ble_eq_true rfl) (Nat.le_of_ble_eq_true rfl) ?_
              subst hZ
              exact tz_leave (tx_noH B (hts _ mw_893) _) (fun t9 ht9 hW9 => ⟨⟨fun v9 hv9 => (by cases hv9), fun x9 hx9 => by cases hx9; exact (⟨t_wd148, lc, f_sf149, f_lf150, ta_exm hex ht ht9 hWt hW9, c151, by rw [ht9]; exact hI.1⟩)⟩, hI.2.F ht9⟩) hI.2.2.2 hlocks
          · rcases hpost.2 _ rfl with ⟨hex, c154, hI1⟩
            have hI : sI (dC, dI) vcl cI cJ (gsC a he dp co li op wd tl lc fo sf lf nf) A s.heap H1 locs1 := ⟨by rw [← ht]; exact hI1, hS⟩
            refine tz_widen (k := 1) (n := 6) (Nat.le_of_ble_eq_true rfl) (Nat.le_of_ble_eq_true rfl) ?_
            subst hZ
            exact tz_leave (tx_noH B (hts _ mw_893) _) (fun t9 ht9 hW9 => ⟨⟨fun v9 hv9 => (by cases hv9), fun x9 hx9 => by cases hx9; exact (⟨wd, lc, sf, lf, ta_exm hex ht ht9 hWt hW9, c154, by rw [ht9]; exact hI.1⟩)⟩, hI.2.F ht9⟩) hI.2.2.2 hlocks
        · rcases hpost.2 _ rfl with ⟨hex, c155, hI1⟩
          have hI : sI (dC, dI) vcl cI cJ (gsC a he dp co li op wd tl lc fo sf lf nf) A s.heap H1 locs1 := ⟨by rw [← ht]; exact hI1, hS⟩
          refine tz_widen (k := 1) (n := 6) (Nat.le_of_ble_eq_true rfl) (Nat.le_of_ble_eq_true rfl) ?_
          subst hZ
          exact tz_leave (tx_noH B (hts _ mw_893) _) (fun t9 ht9 hW9 => ⟨⟨fun v9 hv9 => (by cases hv9), fun x9 hx9 => by cases hx9; exact (⟨wd, lc, sf, lf, ta_exm hex ht ht9 hWt hW9, c155, by rw [ht9]; exact hI.1⟩)⟩, hI.2.F ht9⟩) hI.2.2.2 hlocks
      · refine lv_aload_n hx hb d_En_readLine_28 rfl (lv_at hl 0 rfl) ?_
        refine sv_getr (C := "StoryMachine$Engine") (T := T_En) (N := 15) hx hb hts in_En hown hK hI 5 kC_5 rfl 0 (by decide) (hts _ mw_261) rfl d_En_readLine_29 ?_
        refine lv_iload_n hx hb d_En_readLine_32 rfl (lv_at hl 1 rfl) ?_
        refine sn_iconst hx hb d_En_readLine_33 (by decide) (fun z156 hz156 => ?_)
        refine sn_iadd hx hb d_En_readLine_34 (by omega) (by omega) (fun z157 hz157 => ?_)
        refine lv_iload hx hb d_En_readLine_35 (lv_at hl 4 rfl) ?_
        refine sn_iadd hx hb d_En_readLine_37 (by omega) (by omega) (fun z158 hz158 => ?_)
        refine lv_aload_n hx hb d_En_readLine_38 rfl (lv_at hl 0 rfl) ?_
        refine sv_getr (C := "StoryMachine$Engine") (T := T_En) (N := 15) hx hb hts in_En hown hK hI 5 kC_5 rfl 1 (by decide) (hts _ mw_262) rfl d_En_readLine_39 ?_
        refine sv_getr (C := "StoryMachine$Line") (T := T_Li) (N := 5) hx hb hts in_Li hown hK hI 2 kC_2 rfl 2 (by decide) (hts _ mw_58) rfl d_En_readLine_42 ?_
        refine lv_iload hx hb d_En_readLine_45 (lv_at hl 4 rfl) ?_
        refine sv_ialdr hx hb hK hI 8 kC_8 (by omega) (by omega) d_En_readLine_47 (fun z159 hz159a hz159b => ?_)
        refine tz_call (A1 := ga (adC a) H.size) (tz_runV (C := "StoryMachine$Memory") (As := [.int z158, .int z159]) (rest := []) ⟨hx, hb, hml, hown, hts⟩ (c_Me_writeByte l hfl dC dI cI cJ a H.size he dp co li op wd tl lc fo sf lf nf z158 z159 hok) (tx_cb (n := 2) hts rfl rfl ⟨Nat.le_of_ble_eq_true rfl, Nat.le_of_ble_eq_true rfl⟩ (tx_code.of (hts _ mw_781)) (hts _ mw_2) (by decide +kernel) (hts _ mw_884)) (hts _ mw_779) (hts _ mw_780) ⟨tz_blind, sv_recv (q0 := 1) hts in_Me hK hI kC_1 rfl, fun U hU hW => ⟨rfl, by rw [hU], by rw [hU]; exact hI.1, va_K.moved hW.alike hK, hst _ _ hI.2 U hU hW⟩⟩ rfl rfl hl.1 rfl (lv_room (Nat.le_of_ble_eq_true rfl)) d_En_readLine_48 ⟨Nat.le_of_ble_eq_true rfl, Nat.le_of_ble_eq_true rfl⟩) hI.2 (fun q _ h => ga_sub hAC hA0 hI.2 q h) (ga_sub hAC hA0 hI.2) (fun v t H1 locs1 ht hWt hpost _ _ hS => ?_) (fun x t H1 locs1 ht hWt hpost _ _ hS => ?_)
        · rcases hpost.1 _ rfl with ⟨hv, c160, c160_0, c160_1, hI1⟩
          cases hv
          have hI : sI (dC, dI) vcl cI cJ (gsC a he dp co li op wd tl lc fo sf lf nf) A s.heap H1 locs1 := ⟨by rw [← ht]; exact hI1, hS⟩
          clear hpost hI1 hS ht hWt
          revert hI; generalize H1 = H; generalize locs1 = locs; intro hI
          refine sn_iinc (k := 4) hx hb d_En_readLine_51 hl rfl (by decide) (by decide) (by omega) (by omega) (fun ls z161 hz161 hl => ?_)
          have hl : lv_has ls 8 [(4, .int z161), (0, .ref (a 5)), (1, .int x1), (2, .int x2), (3, .int v22_3)] := hl
          refine lv_goto (tgt := 22) hx hb d_En_readLine_54 (by decide) ?_
          exact ih _ _ _ v22_3 z161 hI c160 (by omega) (by omega) (by omega) (by omega) (by omega) (lv_sub hl [1, 2, 3, 4, 0] rfl) (by omega)
        · rcases hpost.2 _ rfl with ⟨hex, c162, hI1⟩
          have hI : sI (dC, dI) vcl cI cJ (gsC a he dp co li op wd tl lc fo sf lf nf) A s.heap H1 locs1 := ⟨by rw [← ht]; exact hI1, hS⟩
          refine tz_widen (k := 1) (n := 6) (Nat.le_of_ble_eq_true rfl) (Nat.le_of_ble_eq_true rfl) ?_
          subst hZ
          exact tz_leave (tx_noH B (hts _ mw_893) _) (fun t9 ht9 hW9 => ⟨⟨fun v9 hv9 => (by cases hv9), fun x9 hx9 => by cases hx9; exact (⟨wd, lc, sf, lf, ta_exm hex ht ht9 hWt hW9, c162, by rw [ht9]; exact hI.1⟩)⟩, hI.2.F ht9⟩) hI.2.2.2 hlocks
  refine lv_aload_n hx hb d_En_readLine_0 rfl (lv_at hl 0 rfl) ?_
  refine sv_getr (C := "StoryMachine$Engine") (T := T_En) (N := 15) hx hb hts in_En hown hK hI 5 kC_5 rfl 0 (by decide) (hts _ mw_261) rfl d_En_readLine_1 ?_
  refine lv_iload_n hx hb d_En_readLine_4 rfl (lv_at hl 1 rfl) ?_
  refine tz_call (A1 := ga (adC a) H.size) (tz_runV (C := "StoryMachine$Memory") (As := [.int x1]) (rest := []) ⟨hx, hb, hml, hown, hts⟩ (c_Me_byteAt l hfl dC dI cI cJ a H.size he dp co li op wd tl lc fo sf lf nf x1 hok) (tx_cb (n := 1) hts rfl rfl ⟨Nat.le_of_ble_eq_true rfl, Nat.le_of_ble_eq_true rfl⟩ (tx_code.of (hts _ mw_511)) (hts _ mw_2) (by decide +kernel) (hts _ mw_790)) (hts _ mw_509) (hts _ mw_510) ⟨tz_blind, sv_recv (q0 := 1) hts in_Me hK hI kC_1 rfl, fun U hU hW => ⟨rfl, by rw [hU], by rw [hU]; exact hI.1, va_K.moved hW.alike hK, hst _ _ hI.2 U hU hW⟩⟩ rfl rfl hl.1 rfl (lv_room (Nat.le_of_ble_eq_true rfl)) d_En_readLine_5 ⟨Nat.le_of_ble_eq_true rfl, Nat.le_of_ble_eq_true rfl⟩) hI.2 (fun q _ h => ga_sub hAC hA0 hI.2 q h) (ga_sub hAC hA0 hI.2) (fun v t H1 locs1 ht hWt hpost _ _ hS => ?_) (fun x t H1 locs1 ht hWt hpost _ _ hS => ?_)
  · rcases hpost.1 _ rfl with ⟨z163, hv, c164, c164_0, c164_1, c164_2, c164_3, hI1⟩
    cases hv
    have hI : sI (dC, dI) vcl cI cJ (gsC a he dp co li op wd tl lc fo sf lf nf) A s.heap H1 locs1 := ⟨by rw [← ht]; exact hI1, hS⟩
    clear hpost hI1 hS ht hWt
    revert hI; generalize H1 = H; generalize locs1 = locs; intro hI
    refine lv_aload_n hx hb d_En_readLine_8 rfl (lv_at hl 0 rfl) ?_
    refine sv_getr (C := "StoryMachine$Engine") (T := T_En) (N := 15) hx hb hts in_En hown hK hI 5 kC_5 rfl 1 (by decide) (hts _ mw_262) rfl d_En_readLine_9 ?_
    refine sv_get (C := "StoryMachine$Line") (T := T_Li) (N := 5) hx hb hts in_Li hown hK hI 2 kC_2 rfl 3 (by decide) (hts _ mw_60) rfl d_En_readLine_12 (fun z165 hz165a hz165b => ?_)
    refine sj_min hx hb (by rw [hml]; exact hl.1.symm) hown (hts _ mw_894) (hts _ mw_895) (hts _ mw_25) (hts _ mw_896) (Nat.le_of_ble_eq_true rfl) (Nat.le_of_ble_eq_true rfl) (Nat.le_of_ble_eq_true rfl) (Nat.le_of_ble_eq_true rfl) d_En_readLine_15 (fun z166 hz166a hz166b hz166c => ?_)
    refine lv_istore_n (lv' := [(3, .int z166), (0, .ref (a 5)), (1, .int x1), (2, .int x2)]) hx hb d_En_readLine_18 rfl hl (by decide) rfl (fun ls hl => ?_)
    refine sn_iconst hx hb d_En_readLine_19 (by decide) (fun z167 hz167 => ?_)
    refine lv_istore (lv' := [(4, .int z167), (3, .int z166), (0, .ref (a 5)), (1, .int x1), (2, .int x2)]) hx hb d_En_readLine_20 hl (by decide) rfl (fun ls hl => ?_)
    exact j22 25 _ _ _ z166 z167 hI c164 (by omega) (by omega) (by omega) (by omega) (by omega) (lv_sub hl [2, 3, 4, 1, 0] rfl) (by omega)
  · rcases hpost.2 _ rfl with ⟨hex, c168, hI1⟩
    have hI : sI (dC, dI) vcl cI cJ (gsC a he dp co li op wd tl lc fo sf lf nf) A s.heap H1 locs1 := ⟨by rw [← ht]; exact hI1, hS⟩
    refine tz_widen (k := 1) (n := 6) (Nat.le_of_ble_eq_true rfl) (Nat.le_of_ble_eq_true rfl) ?_
    subst hZ
    exact tz_leave (tx_noH B (hts _ mw_893) _) (fun t9 ht9 hW9 => ⟨⟨fun v9 hv9 => (by cases hv9), fun x9 hx9 => by cases hx9; exact (⟨wd, lc, sf, lf, ta_exm hex ht ht9 hWt hW9, c168, by rw [ht9]; exact hI.1⟩)⟩, hI.2.F ht9⟩) hI.2.2.2 hlocks
abbrev q_En_randomNumber (dC : Nat → ClassId) (dI : Nat → Nat → Nat) (cI cJ : ClassId) (a : Nat → Nat) (he dp co li op wd tl lc fo : Int) (sf lf nf : Nat → Int32) (x1 : Int32) : Outcome → State → Prop := fun o t => (∀ v, o = .returned v → ((∃ (z : Int32), v = some (.int z) ∧ okC he dp co li op wd tl lc fo sf lf nf ∧ ((-2147483648) ≤ z.toInt) ∧ (z.toInt ≤ 2147483647) ∧ sh_I (dC, dI) vcl cI cJ (gsC a he dp co li op wd tl lc fo sf lf nf) t.heap))) ∧ (∀ x, o = .threw x → (False))
def rm_En_randomNumber : Room := { frames := 0, cells := 0, slots := 0, locals := 0 }
set_option maxHeartbeats 4000000 in
set_option maxRecDepth 100000 in
theorem c_En_randomNumber (l : Launch) (hfl : l.flags = pinnedFlags ++ [noTraceFlag]) (dC : Nat → ClassId) (dI : Nat → Nat → Nat) (cI cJ : ClassId) (a : Nat → Nat) (sz : Nat) (he dp co li op wd tl lc fo : Int) (sf lf nf : Nat → Int32) (x1 : Int32) (hok : okC he dp co li op wd tl lc fo sf lf nf) (hp0 : (-32768) ≤ x1.toInt) (hp1 : x1.toInt ≤ 32767) : tz_Met l ⟨"StoryMachine$Engine", "randomNumber", "(I)I"⟩ tw_tbl rm_En_randomNumber (tzP (dC, dI) vcl cI cJ (gsC a he dp co li op wd tl lc fo sf lf nf) a (adC a) [.ref (a 5), .int x1] sz) (tq_Q (q_En_randomNumber dC dI cI cJ a he dp co li op wd tl lc fo sf lf nf x1) (ga (adC a) sz)) 0 0 0 0 (ga (adC a) sz) := by
  refine tz_ofW (cc := prog_4_method_18_code) (maxL := 2) (ret := (some .int)) (by decide) (tx_isM mw_1009) ?_
  intro p e s m args below meth c s₁ B hml hv
  obtain ⟨rfl, hsz, hI0, hK, hst0⟩ := hv
  have hx := B.exec
  have hb := B.bytes
  have hr := B.returns
  have hts := atoms_spec (ws := tw_tbl) B.pre
  have hown : s.vm.findClass "StoryMachine$Engine" = some m.cls := findClass_of_methodNamed B.named
  have hlocks := B.notSynchronized
  subst hsz
  have hst := fun (H : Heap) (locs : List Loc) (hS : va_S (ga (adC a) s.heap.size) s.heap H locs) (U : State) (hU : U.heap = H) (hW : s.WarmedH U.vm) => zS_all adC_map hI0 hst0 hS hU hW
  have hAC : ∀ q ∈ adC a, ga (adC a) s.heap.size q := fun q h => Or.inl h
  have hA0 : ∀ q, s.heap.size ≤ q → ga (adC a) s.heap.size q := fun q h => Or.inr h
  have hI : sI (dC, dI) vcl cI cJ (gsC a he dp co li op wd tl lc fo sf lf nf) (ga (adC a) s.heap.size) s.heap s.heap [] := ⟨hI0, va_S.rf⟩
  clear hI0 hst0
  have hl := lv_entry ([.ref (a 5), .int x1]) (n := 2) (Nat.le_of_ble_eq_true rfl)
  rw [lg_entry_eq]
  generalize (lg_sl ([.ref (a 5), .int x1]) ++ List.replicate (2 - (lg_sl ([.ref (a 5), .int x1])).length) Slot.unset).toArray = ls at hl ⊢
  have hl : lv_has ls 2 [(0, .ref (a 5)), (1, .int x1)] := hl
  generalize hZ : tz_MQ below (tq_Q (q_En_randomNumber dC dI cI cJ a he dp co li op wd tl lc fo sf lf nf x1) (ga (adC a) s.heap.size)) ([.ref (a 5), .int x1] : List Value).toArray s 0 0 0 0 (ga (adC a) s.heap.size) = Z
  obtain ⟨A, hAe⟩ : ∃ A, A = ga (adC a) s.heap.size := ⟨_, rfl⟩
  rw [← hAe] at hst hAC hA0 hI hZ
  refine sv_start hI (fun H locs hI => ?_)
  obtain ⟨⟨o1, o2⟩, ⟨o3, o4⟩, ⟨o5, o6⟩, ⟨o7, o8⟩, ⟨o9, o10⟩, ⟨o11, o12⟩, ⟨o13, o14⟩, ⟨o15, o16⟩, ⟨o17, o18⟩, o19, -, -⟩ := id hok
  have gx1 := sn_rng x1
  refine lv_iload_n hx hb d_En_randomNumber_0 rfl (lv_at hl 1 rfl) ?_
  refine sn_if_le (tgt := 31) hx hb d_En_randomNumber_1 (by decide) (fun b20 => ?_) (fun b20 => ?_)
  · refine lv_aload_n hx hb d_En_randomNumber_31 rfl (lv_at hl 0 rfl) ?_
    refine lv_iload_n hx hb d_En_randomNumber_32 rfl (lv_at hl 1 rfl) ?_
    refine sn_ineg hx hb d_En_randomNumber_33 (by omega) (fun z21 hz21 => ?_)
    refine sn_sipush hx hb d_En_randomNumber_34 (by decide) (fun z22 hz22 => ?_)
    refine sn_irem (k := 1024) hx hb d_En_randomNumber_37 (by omega) (by omega) (by omega) (fun z23 hz23 => ?_)
    refine sv_put (C := "StoryMachine$Engine") (T := T_En) (N := 15) (ty := .int) hx hb hts in_En t_En tk_En nm_En hown hK (sh_in adC_map hAC) hI 5 kC_5 rfl 14 (by decide) (hts _ mw_278) rfl (by decide +kernel) rfl rfl (Nat.le_of_ble_eq_true rfl) (by omega) (by omega) pC_5_14 d_En_randomNumber_38 (fun H locs hI => ?_)
    refine sn_iconst hx hb d_En_randomNumber_41 (by decide) (fun z24 hz24 => ?_)
    subst hZ
    exact tz_ret (W.iret (v := z24) hx hb hr (fun t ht hW => ⟨⟨fun v9 hv9 => by cases hv9; exact (⟨z24, rfl, hok, by omega, by omega, by rw [ht]; exact hI.1⟩), fun x9 hx9 => (by cases hx9)⟩, hI.2.F ht⟩) hI.2.2.2 d_En_randomNumber_42)
  · refine lv_aload_n hx hb d_En_randomNumber_4 rfl (lv_at hl 0 rfl) ?_
    refine sn_bipush hx hb d_En_randomNumber_5 (by decide) (fun z25 hz25 => ?_)
    refine lv_aload_n hx hb d_En_randomNumber_7 rfl (lv_at hl 0 rfl) ?_
    refine sv_get (C := "StoryMachine$Engine") (T := T_En) (N := 15) hx hb hts in_En hown hK hI 5 kC_5 rfl 14 (by decide) (hts _ mw_278) rfl d_En_randomNumber_8 (fun z26 hz26a hz26b => ?_)
    refine sn_imulT hx hb d_En_randomNumber_11 (fun z27 hz27a hz27b => ?_)
    refine sn_bipush hx hb d_En_randomNumber_12 (by decide) (fun z28 hz28 => ?_)
    refine sn_iaddT hx hb d_En_randomNumber_14 (fun z29 hz29a hz29b => ?_)
    refine sn_sipush hx hb d_En_randomNumber_15 (by decide) (fun z30 hz30 => ?_)
    refine sn_iremT hx hb d_En_randomNumber_18 (by omega) (fun z31 hz31a hz31b => ?_)
    refine sv_put (C := "StoryMachine$Engine") (T := T_En) (N := 15) (ty := .int) hx hb hts in_En t_En tk_En nm_En hown hK (sh_in adC_map hAC) hI 5 kC_5 rfl 14 (by decide) (hts _ mw_278) rfl (by decide +kernel) rfl rfl (Nat.le_of_ble_eq_true rfl) (by omega) (by omega) pC_5_14 d_En_randomNumber_19 (fun H locs hI => ?_)
    refine sn_iconst hx hb d_En_randomNumber_22 (by decide) (fun z32 hz32 => ?_)
    refine lv_aload_n hx hb d_En_randomNumber_23 rfl (lv_at hl 0 rfl) ?_
    refine sv_get (C := "StoryMachine$Engine") (T := T_En) (N := 15) hx hb hts in_En hown hK hI 5 kC_5 rfl 14 (by decide) (hts _ mw_278) rfl d_En_randomNumber_24 (fun z33 hz33a hz33b => ?_)
    refine lv_iload_n hx hb d_En_randomNumber_27 rfl (lv_at hl 1 rfl) ?_
    refine sn_iremT hx hb d_En_randomNumber_28 (by omega) (fun z34 hz34a hz34b => ?_)
    refine sn_iaddT hx hb d_En_randomNumber_29 (fun z35 hz35a hz35b => ?_)
    subst hZ
    exact tz_ret (W.iret (v := z35) hx hb hr (fun t ht hW => ⟨⟨fun v9 hv9 => by cases hv9; exact (⟨z35, rfl, hok, by omega, by omega, by rw [ht]; exact hI.1⟩), fun x9 hx9 => (by cases hx9)⟩, hI.2.F ht⟩) hI.2.2.2 d_En_randomNumber_30)
