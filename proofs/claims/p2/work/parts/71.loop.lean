/-! The law: its loop; written by wip/tools/p2law.py. -/
set_option maxHeartbeats 8000000 in
set_option maxRecDepth 100000 in
theorem la_loop {p : Program} {e : Env} {s : State} {m : MethodId} {below : List Frame} {meth : Method} {c : Code} (l : Launch) (hfl : l.flags = pinnedFlags ++ [noTraceFlag]) {b L : Nat} {xs : Nat → Int32} (hL : L ≤ 2560) (hx : p.tables.exec = Jvm.exec) (hb : c.code = code) (hml : c.maxLocals = 7) (hown : s.vm.findClass "StoryMachineLaw" = some m.cls) (hts : ∀ w ∈ tw_tbl, w.before #[Value.ref b] s = true) (hX : va_X b L xs s s.heap) (hbl : b < s.heap.size)
    (dC : Nat → ClassId) (dI : Nat → Nat → Nat) (cI cJ : ClassId) (hK : va_K (dC, dI) vcl [(cI, .int), (cJ, .long)] s) (A : Nat → Prop) (hA0 : ∀ q, s.heap.size ≤ q → A q) (hbA : ¬ A b) (a : Nat → Nat) (hACC : ∀ q ∈ adC a, A q) (hACM : ∀ q ∈ adM (fun k => a (200 + k)), A q)
    (hstC : ∀ (H : Heap) (locs : List Loc), va_S A s.heap H locs → ∀ U : State, U.heap = H → s.WarmedH U.vm → zS a (adC a) U) (hstM : ∀ (H : Heap) (locs : List Loc), va_S A s.heap H locs → ∀ U : State, U.heap = H → s.WarmedH U.vm → zS (fun k => a (200 + k)) (adM (fun k => a (200 + k))) U)
    (hfin : ∀ {H : Heap} {locs : List Loc} {cells slots : Nat} {ls : Array Slot}, va_S A s.heap H locs → cells ≤ 601024 → slots ≤ 7293034 → W p l e room_1 s m #[Value.ref b] below meth c H locs cells slots (lw_Z below #[Value.ref b] s) (F0 m 470 ls [])) : ∀ (n : Nat) (H : Heap) (locs : List Loc) (ls : Array Slot) (v23_4 : Int32) (t23_he t23_dp t23_co t23_li t23_op t23_wd t23_tl t23_lc t23_fo t23_mth t23_mtr t23_mdp t23_mzi t23_mco t23_msh t23_mlt t23_mts : Int) (t23_sf t23_lf t23_nf t23_mmf : Nat → Int32), sI (dC, dI) vcl cI cJ (gsB a t23_he t23_dp t23_co t23_li t23_op t23_wd t23_tl t23_lc t23_fo t23_mth t23_mtr t23_mdp t23_mzi t23_mco t23_msh t23_mlt t23_mts t23_sf t23_lf t23_nf t23_mmf) A s.heap H locs → okB t23_he t23_dp t23_co t23_li t23_op t23_wd t23_tl t23_lc t23_fo t23_mth t23_mtr t23_mdp t23_mzi t23_mco t23_msh t23_mlt t23_mts t23_sf t23_lf t23_nf t23_mmf → 0 ≤ v23_4.toInt → v23_4.toInt ≤ 2560 → t23_msh ≤ 3003000 * (513 - (n : Int)) → v23_4.toInt ≤ (L : Int) → lv_has ls 7 [(0, .ref b), (1, .ref (a 0)), (2, .ref (a 200)), (3, .ref (a 35)), (4, .int v23_4)] → (L : Int) - v23_4.toInt < 5 * (n : Int) → n ≤ 513 → W p l e room_1 s m #[Value.ref b] below meth c H locs (58 + 301 * (513 - n)) (3555 + 1806 * (513 - n)) (lw_Z below #[Value.ref b] s) (F0 m 23 ls []) := by
  have j23 : ∀ (n : Nat) (H : Heap) (locs : List Loc) (ls : Array Slot) (v23_4 : Int32) (t23_he t23_dp t23_co t23_li t23_op t23_wd t23_tl t23_lc t23_fo t23_mth t23_mtr t23_mdp t23_mzi t23_mco t23_msh t23_mlt t23_mts : Int) (t23_sf t23_lf t23_nf t23_mmf : Nat → Int32), sI (dC, dI) vcl cI cJ (gsB a t23_he t23_dp t23_co t23_li t23_op t23_wd t23_tl t23_lc t23_fo t23_mth t23_mtr t23_mdp t23_mzi t23_mco t23_msh t23_mlt t23_mts t23_sf t23_lf t23_nf t23_mmf) A s.heap H locs → okB t23_he t23_dp t23_co t23_li t23_op t23_wd t23_tl t23_lc t23_fo t23_mth t23_mtr t23_mdp t23_mzi t23_mco t23_msh t23_mlt t23_mts t23_sf t23_lf t23_nf t23_mmf → 0 ≤ v23_4.toInt → v23_4.toInt ≤ 2560 → t23_msh ≤ 3003000 * (513 - (n : Int)) → v23_4.toInt ≤ (L : Int) → lv_has ls 7 [(0, .ref b), (1, .ref (a 0)), (2, .ref (a 200)), (3, .ref (a 35)), (4, .int v23_4)] → (L : Int) - v23_4.toInt < 5 * (n : Int) → n ≤ 513 → W p l e room_1 s m #[Value.ref b] below meth c H locs (58 + 301 * (513 - n)) (3555 + 1806 * (513 - n)) (lw_Z below #[Value.ref b] s) (F0 m 23 ls []) := by
    intro n
    induction n with
    | zero => intro H locs ls v23_4 t23_he t23_dp t23_co t23_li t23_op t23_wd t23_tl t23_lc t23_fo t23_mth t23_mtr t23_mdp t23_mzi t23_mco t23_msh t23_mlt t23_mts t23_sf t23_lf t23_nf t23_mmf hI hok g23_0 g23_1 g23_2 g23_3 hl hme hnB; exfalso; obtain ⟨⟨o1, o2⟩, ⟨o3, o4⟩, ⟨o5, o6⟩, ⟨o7, o8⟩, ⟨o9, o10⟩, ⟨o11, o12⟩, ⟨o13, o14⟩, ⟨o15, o16⟩, ⟨o17, o18⟩, ⟨o19, o20⟩, ⟨o21, o22⟩, ⟨o23, o24⟩, ⟨o25, o26⟩, ⟨o27, o28⟩, ⟨o29, o30⟩, ⟨o31, o32⟩, ⟨o33, o34⟩, o35, -, -, -⟩ := id hok; omega
    | succ n ih =>
      intro H locs ls v23_4 t23_he t23_dp t23_co t23_li t23_op t23_wd t23_tl t23_lc t23_fo t23_mth t23_mtr t23_mdp t23_mzi t23_mco t23_msh t23_mlt t23_mts t23_sf t23_lf t23_nf t23_mmf hI hok g23_0 g23_1 g23_2 g23_3 hl hme hnB
      obtain ⟨⟨o36, o37⟩, ⟨o38, o39⟩, ⟨o40, o41⟩, ⟨o42, o43⟩, ⟨o44, o45⟩, ⟨o46, o47⟩, ⟨o48, o49⟩, ⟨o50, o51⟩, ⟨o52, o53⟩, ⟨o54, o55⟩, ⟨o56, o57⟩, ⟨o58, o59⟩, ⟨o60, o61⟩, ⟨o62, o63⟩, ⟨o64, o65⟩, ⟨o66, o67⟩, ⟨o68, o69⟩, o70, -, -, -⟩ := id hok
      have j464 : ∀ (H : Heap) (locs : List Loc) (ls : Array Slot) (t464_he t464_dp t464_co t464_li t464_op t464_wd t464_tl t464_lc t464_fo t464_mth t464_mtr t464_mdp t464_mzi t464_mco t464_msh t464_mlt t464_mts : Int) (t464_sf t464_lf t464_nf t464_mmf : Nat → Int32), sI (dC, dI) vcl cI cJ (gsB a t464_he t464_dp t464_co t464_li t464_op t464_wd t464_tl t464_lc t464_fo t464_mth t464_mtr t464_mdp t464_mzi t464_mco t464_msh t464_mlt t464_mts t464_sf t464_lf t464_nf t464_mmf) A s.heap H locs → okB t464_he t464_dp t464_co t464_li t464_op t464_wd t464_tl t464_lc t464_fo t464_mth t464_mtr t464_mdp t464_mzi t464_mco t464_msh t464_mlt t464_mts t464_sf t464_lf t464_nf t464_mmf → t464_msh ≤ 3003000 * (513 - (n : Int)) → v23_4.toInt + 5 ≤ (L : Int) → lv_has ls 7 [(0, .ref b), (1, .ref (a 0)), (2, .ref (a 200)), (3, .ref (a 35)), (4, .int v23_4)] → W p l e room_1 s m #[Value.ref b] below meth c H locs (359 + 301 * (513 - (n + 1))) (5361 + 1806 * (513 - (n + 1))) (lw_Z below #[Value.ref b] s) (F0 m 464 ls []) := by
        intro H locs ls t464_he t464_dp t464_co t464_li t464_op t464_wd t464_tl t464_lc t464_fo t464_mth t464_mtr t464_mdp t464_mzi t464_mco t464_msh t464_mlt t464_mts t464_sf t464_lf t464_nf t464_mmf hI hok g464_0 g464_1 hl
        obtain ⟨⟨o71, o72⟩, ⟨o73, o74⟩, ⟨o75, o76⟩, ⟨o77, o78⟩, ⟨o79, o80⟩, ⟨o81, o82⟩, ⟨o83, o84⟩, ⟨o85, o86⟩, ⟨o87, o88⟩, ⟨o89, o90⟩, ⟨o91, o92⟩, ⟨o93, o94⟩, ⟨o95, o96⟩, ⟨o97, o98⟩, ⟨o99, o100⟩, ⟨o101, o102⟩, ⟨o103, o104⟩, o105, -, -, -⟩ := id hok
        refine sn_iinc (k := 4) hx hb d_La_law_464 hl rfl (by decide) (by decide) (by omega) (by omega) (fun ls z106 hz106 hl => ?_)
        have hl : lv_has ls 7 [(4, .int z106), (0, .ref b), (1, .ref (a 0)), (2, .ref (a 200)), (3, .ref (a 35))] := hl
        refine lv_goto (tgt := 23) hx hb d_La_law_467 (by decide) ?_
        refine W.widen (k := (58 + 301 * (513 - n))) (n := (3555 + 1806 * (513 - n))) (by omega) (by omega) ?_
        exact ih _ _ _ z106 t464_he t464_dp t464_co t464_li t464_op t464_wd t464_tl t464_lc t464_fo t464_mth t464_mtr t464_mdp t464_mzi t464_mco t464_msh t464_mlt t464_mts t464_sf t464_lf t464_nf t464_mmf hI hok (by omega) (by omega) (by omega) (by omega) (lv_sub hl [1, 2, 3, 4, 0] rfl) (by omega) (by omega)
      refine lv_iload hx hb d_La_law_23 (lv_at hl 4 rfl) ?_
      refine lv_aload_n hx hb d_La_law_25 rfl (lv_at hl 0 rfl) ?_
      refine va_slen hx hb hX hbl hbA hI.2 d_La_law_26 ?_
      refine sn_topL hL (fun z107 hz107 => ?_)
      refine sn_iconst hx hb d_La_law_27 (by decide) (fun z108 hz108 => ?_)
      refine sn_isub hx hb d_La_law_28 (by omega) (by omega) (fun z109 hz109 => ?_)
      refine sn_icmp_gt (tgt := 470) hx hb d_La_law_29 (by decide) (fun b110 => ?_) (fun b110 => ?_)
      · exact hfin hI.2 (by omega) (by omega)
      · refine lv_aload_n hx hb d_La_law_32 rfl (lv_at hl 0 rfl) ?_
        refine lv_iload hx hb d_La_law_33 (lv_at hl 4 rfl) ?_
        refine va_sld hx hb hX hbl hbA hI.2 (sv_in (by omega) (by omega)) d_La_law_35 ?_
        refine sn_tope (fun z111 hz111 => ?_)
        have hz111x : z111.toInt = (xs (v23_4.toInt + 0).toNat).toInt := by rw [hz111, show v23_4.toNatClampNeg = (v23_4.toInt + 0).toNat from by rw [← show v23_4.toInt = v23_4.toInt + 0 by omega]; rfl]
        have hz111r := sn_rng z111
        clear hz111
        refine sn_bipush hx hb d_La_law_36 (by decide) (fun z112 hz112 => ?_)
        refine sn_iand (k := 4) (M := 15) hx hb d_La_law_38 (by decide) (by decide) (by omega) (fun z113 hz113a hz113b hz113c => ?_)
        clear hz113c
        have w114 : W p l e room_1 s m #[Value.ref b] below meth c H locs (58 + 301 * (513 - (n + 1))) (3555 + 1806 * (513 - (n + 1))) (lw_Z below #[Value.ref b] s) (F0 m 464 ls []) := by
          refine W.widen (k := (359 + 301 * (513 - (n + 1)))) (n := (5361 + 1806 * (513 - (n + 1)))) (by omega) (by omega) ?_
          exact j464 _ _ _ t23_he t23_dp t23_co t23_li t23_op t23_wd t23_tl t23_lc t23_fo t23_mth t23_mtr t23_mdp t23_mzi t23_mco t23_msh t23_mlt t23_mts t23_sf t23_lf t23_nf t23_mmf hI hok (by omega) (by omega) (lv_sub hl [0, 1, 2, 3, 4] rfl)
        by_cases b115 : z113.toInt = 0
        · refine sn_tin (v := 0) (off := 61) (tgt := 100) hx hb d_La_law_39 b115 (by decide) (by decide) (by decide) (by decide) ?_
          refine lv_aload_n hx hb d_La_law_100 rfl (lv_at hl 1 rfl) ?_
          refine lv_aload_n hx hb d_La_law_101 rfl (lv_at hl 0 rfl) ?_
          refine lv_iload hx hb d_La_law_102 (lv_at hl 4 rfl) ?_
          refine sn_iconst hx hb d_La_law_104 (by decide) (fun z116 hz116 => ?_)
          refine sn_iadd hx hb d_La_law_105 (by omega) (by omega) (fun z117 hz117 => ?_)
          refine va_sld hx hb hX hbl hbA hI.2 (sv_in (by omega) (by omega)) d_La_law_106 ?_
          refine sn_tope (fun z118 hz118 => ?_)
          have hz118x : z118.toInt = (xs (v23_4.toInt + 1).toNat).toInt := by rw [hz118, show z117.toNatClampNeg = (v23_4.toInt + 1).toNat from by rw [← show z117.toInt = v23_4.toInt + 1 by omega]; rfl]
          have hz118r := sn_rng z118
          clear hz118
          refine lv_aload_n hx hb d_La_law_107 rfl (lv_at hl 0 rfl) ?_
          refine lv_iload hx hb d_La_law_108 (lv_at hl 4 rfl) ?_
          refine sn_iconst hx hb d_La_law_110 (by decide) (fun z119 hz119 => ?_)
          refine sn_iadd hx hb d_La_law_111 (by omega) (by omega) (fun z120 hz120 => ?_)
          refine va_sld hx hb hX hbl hbA hI.2 (sv_in (by omega) (by omega)) d_La_law_112 ?_
          refine sn_tope (fun z121 hz121 => ?_)
          have hz121x : z121.toInt = (xs (v23_4.toInt + 2).toNat).toInt := by rw [hz121, show z120.toNatClampNeg = (v23_4.toInt + 2).toNat from by rw [← show z120.toInt = v23_4.toInt + 2 by omega]; rfl]
          have hz121r := sn_rng z121
          clear hz121
          refine lv_i2l hx hb d_La_law_113 rfl ?_
          refine lv_topl (fun y122 hy122 => ?_)
          refine sn_bipush hx hb d_La_law_114 (by decide) (fun z123 hz123 => ?_)
          refine lv_lshl hx hb d_La_law_116 rfl ?_
          refine lv_topl (fun y124 hy124 => ?_)
          refine lv_aload_n hx hb d_La_law_117 rfl (lv_at hl 0 rfl) ?_
          refine lv_iload hx hb d_La_law_118 (lv_at hl 4 rfl) ?_
          refine sn_iconst hx hb d_La_law_120 (by decide) (fun z125 hz125 => ?_)
          refine sn_iadd hx hb d_La_law_121 (by omega) (by omega) (fun z126 hz126 => ?_)
          refine va_sld hx hb hX hbl hbA hI.2 (sv_in (by omega) (by omega)) d_La_law_122 ?_
          refine sn_tope (fun z127 hz127 => ?_)
          have hz127x : z127.toInt = (xs (v23_4.toInt + 3).toNat).toInt := by rw [hz127, show z126.toNatClampNeg = (v23_4.toInt + 3).toNat from by rw [← show z126.toInt = v23_4.toInt + 3 by omega]; rfl]
          have hz127r := sn_rng z127
          clear hz127
          refine lv_i2l hx hb d_La_law_123 rfl ?_
          refine lv_topl (fun y128 hy128 => ?_)
          refine lv_ldc2 hx hb hown (hts _ mw_1547) d_La_law_124 ?_
          refine lv_topl (fun c4294967295_129 hc4294967295_129 => ?_)
          refine lv_land hx hb d_La_law_127 ?_
          refine lv_topl (fun y130 hy130 => ?_)
          refine lv_lor hx hb d_La_law_128 ?_
          refine lv_topl (fun y131 hy131 => ?_)
          refine lv_aload_n hx hb d_La_law_129 rfl (lv_at hl 0 rfl) ?_
          refine lv_iload hx hb d_La_law_130 (lv_at hl 4 rfl) ?_
          refine sn_iconst hx hb d_La_law_132 (by decide) (fun z132 hz132 => ?_)
          refine sn_iadd hx hb d_La_law_133 (by omega) (by omega) (fun z133 hz133 => ?_)
          refine va_sld hx hb hX hbl hbA hI.2 (sv_in (by omega) (by omega)) d_La_law_134 ?_
          refine sn_tope (fun z134 hz134 => ?_)
          have hz134x : z134.toInt = (xs (v23_4.toInt + 4).toNat).toInt := by rw [hz134, show z133.toNatClampNeg = (v23_4.toInt + 4).toNat from by rw [← show z133.toInt = v23_4.toInt + 4 by omega]; rfl]
          have hz134r := sn_rng z134
          clear hz134
          refine tz_call (A1 := ga (adC a) H.size) (tz_runS (As := [.ref (a 0), .int z118, .long y131, .int z134]) (rest := []) ⟨hx, hb, hml, hown, hts⟩ (c_La_poke l hfl dC dI cI cJ a H.size t23_he t23_dp t23_co t23_li t23_op t23_wd t23_tl t23_lc t23_fo t23_sf t23_lf t23_nf z118 y131 z134 ⟨hok.1, hok.2.1, hok.2.2.1, hok.2.2.2.1, hok.2.2.2.2.1, hok.2.2.2.2.2.1, hok.2.2.2.2.2.2.1, hok.2.2.2.2.2.2.2.1, hok.2.2.2.2.2.2.2.2.1, hok.2.2.2.2.2.2.2.2.2.2.2.2.2.2.2.2.2.1, hok.2.2.2.2.2.2.2.2.2.2.2.2.2.2.2.2.2.2.1, hok.2.2.2.2.2.2.2.2.2.2.2.2.2.2.2.2.2.2.2.1⟩) (tx_cb (n := 4) hts rfl rfl ⟨Nat.le_of_ble_eq_true rfl, Nat.le_of_ble_eq_true rfl⟩ (tx_code.ofW (hts _ mw_348)) (hts _ mw_0) (by decide +kernel) (hts _ mw_346)) (hts _ mw_347) ⟨tz_blind, fun U hU hW => ⟨rfl, by rw [hU], by rw [hU]; exact (sh_app (s1 := gsC a t23_he t23_dp t23_co t23_li t23_op t23_wd t23_tl t23_lc t23_fo t23_sf t23_lf t23_nf) (s2 := gsM (fun k => a (200 + k)) t23_mth t23_mtr t23_mdp t23_mzi t23_mco t23_msh t23_mlt t23_mts t23_mmf) hI.1).1, va_K.moved hW.alike hK, hstC _ _ hI.2 U hU hW⟩⟩ rfl rfl hl.1 rfl (lv_room (Nat.le_of_ble_eq_true rfl)) d_La_law_135 ⟨by show (58 + 301 * (513 - (n + 1))) + 1 ≤ 601024; omega, by show (3555 + 1806 * (513 - (n + 1))) + 6 ≤ 7293034; omega⟩) hI.2 (fun q _ h => ga_sub hACC hA0 hI.2 q h) (ga_sub hACC hA0 hI.2) (fun v t H1 locs1 ht hWt hpost _ hk1 hS => ?_) (fun x t H1 locs1 ht hWt hpost _ _ hS => (hpost.2 x rfl).elim)
          rcases hpost.1 _ rfl with ⟨z135, hv, c136, c136_0, c136_1, c136_2, c136_3, c136_4, c136_5, c136_6, c136_7, c136_8, c136_9, hI1⟩ | ⟨z137, hv, c138, c138_0, c138_1, c138_2, hI1⟩
          · cases hv
            have hI : sI (dC, dI) vcl cI cJ (gsB a t23_he t23_dp t23_co t23_li t23_op t23_wd t23_tl t23_lc t23_fo t23_mth t23_mtr t23_mdp t23_mzi t23_mco t23_msh t23_mlt t23_mts t23_sf t23_lf t23_nf t23_mmf) A s.heap H1 locs1 := ⟨sh_callC (s1 := gsC a t23_he t23_dp t23_co t23_li t23_op t23_wd t23_tl t23_lc t23_fo t23_sf t23_lf t23_nf) (s2 := gsM (fun k => a (200 + k)) t23_mth t23_mtr t23_mdp t23_mzi t23_mco t23_msh t23_mlt t23_mts t23_mmf) (s1' := gsC a t23_he t23_dp t23_co t23_li t23_op t23_wd t23_tl t23_lc t23_fo t23_sf t23_lf t23_nf) hI.1 adC_map adC_map hk1 (by rw [← ht]; exact hI1), hS⟩
            have ho139 : okB t23_he t23_dp t23_co t23_li t23_op t23_wd t23_tl t23_lc t23_fo t23_mth t23_mtr t23_mdp t23_mzi t23_mco t23_msh t23_mlt t23_mts t23_sf t23_lf t23_nf t23_mmf := ⟨c136.1, c136.2.1, c136.2.2.1, c136.2.2.2.1, c136.2.2.2.2.1, c136.2.2.2.2.2.1, c136.2.2.2.2.2.2.1, c136.2.2.2.2.2.2.2.1, c136.2.2.2.2.2.2.2.2.1, hok.2.2.2.2.2.2.2.2.2.1, hok.2.2.2.2.2.2.2.2.2.2.1, hok.2.2.2.2.2.2.2.2.2.2.2.1, hok.2.2.2.2.2.2.2.2.2.2.2.2.1, hok.2.2.2.2.2.2.2.2.2.2.2.2.2.1, hok.2.2.2.2.2.2.2.2.2.2.2.2.2.2.1, hok.2.2.2.2.2.2.2.2.2.2.2.2.2.2.2.1, hok.2.2.2.2.2.2.2.2.2.2.2.2.2.2.2.2.1, c136.2.2.2.2.2.2.2.2.2.1, c136.2.2.2.2.2.2.2.2.2.2.1, c136.2.2.2.2.2.2.2.2.2.2.2, hok.2.2.2.2.2.2.2.2.2.2.2.2.2.2.2.2.2.2.2.2⟩
            clear hpost hI1 hS ht hWt hk1
            revert hI; generalize H1 = H; generalize locs1 = locs; intro hI
            refine W.widen (k := (59 + 301 * (513 - (n + 1)))) (n := (3561 + 1806 * (513 - (n + 1)))) (by omega) (by omega) ?_
            refine lv_istore (lv' := [(5, .int z135), (0, .ref b), (1, .ref (a 0)), (2, .ref (a 200)), (3, .ref (a 35)), (4, .int v23_4)]) hx hb d_La_law_138 hl (by decide) rfl (fun ls hl => ?_)
            refine lv_aload_n hx hb d_La_law_140 rfl (lv_at hl 3 rfl) ?_
            refine lv_aload_n hx hb d_La_law_141 rfl (lv_at hl 1 rfl) ?_
            refine lv_iload hx hb d_La_law_142 (lv_at hl 5 rfl) ?_
            refine sn_iconst hx hb d_La_law_144 (by decide) (fun z140 hz140 => ?_)
            refine sn_iadd hx hb d_La_law_145 (by omega) (by omega) (fun z141 hz141 => ?_)
            refine va_sld hx hb hX hbl hbA hI.2 (sv_in (by omega) (by omega)) d_La_law_146 ?_
            refine sn_tope (fun z142 hz142 => ?_)
            have hz142x : z142.toInt = (xs (v23_4.toInt + 1).toNat).toInt := by rw [hz142, show z141.toNatClampNeg = (v23_4.toInt + 1).toNat from by rw [← show z141.toInt = v23_4.toInt + 1 by omega]; rfl]
            have hz142r := sn_rng z142
            clear hz142
            refine lv_aload_n hx hb d_La_law_147 rfl (lv_at hl 1 rfl) ?_
            refine lv_iload hx hb d_La_law_148 (lv_at hl 5 rfl) ?_
            refine sn_iconst hx hb d_La_law_150 (by decide) (fun z143 hz143 => ?_)
            refine sn_iadd hx hb d_La_law_151 (by omega) (by omega) (fun z144 hz144 => ?_)
            refine va_sld hx hb hX hbl hbA hI.2 (sv_in (by omega) (by omega)) d_La_law_152 ?_
            refine sn_tope (fun z145 hz145 => ?_)
            have hz145x : z145.toInt = (xs (v23_4.toInt + 2).toNat).toInt := by rw [hz145, show z144.toNatClampNeg = (v23_4.toInt + 2).toNat from by rw [← show z144.toInt = v23_4.toInt + 2 by omega]; rfl]
            have hz145r := sn_rng z145
            clear hz145
            refine lv_i2l hx hb d_La_law_153 rfl ?_
            refine lv_topl (fun y146 hy146 => ?_)
            refine sn_bipush hx hb d_La_law_154 (by decide) (fun z147 hz147 => ?_)
            refine lv_lshl hx hb d_La_law_156 rfl ?_
            refine lv_topl (fun y148 hy148 => ?_)
            refine lv_aload_n hx hb d_La_law_157 rfl (lv_at hl 1 rfl) ?_
            refine lv_iload hx hb d_La_law_158 (lv_at hl 5 rfl) ?_
            refine sn_iconst hx hb d_La_law_160 (by decide) (fun z149 hz149 => ?_)
            refine sn_iadd hx hb d_La_law_161 (by omega) (by omega) (fun z150 hz150 => ?_)
            refine va_sld hx hb hX hbl hbA hI.2 (sv_in (by omega) (by omega)) d_La_law_162 ?_
            refine sn_tope (fun z151 hz151 => ?_)
            have hz151x : z151.toInt = (xs (v23_4.toInt + 3).toNat).toInt := by rw [hz151, show z150.toNatClampNeg = (v23_4.toInt + 3).toNat from by rw [← show z150.toInt = v23_4.toInt + 3 by omega]; rfl]
            have hz151r := sn_rng z151
            clear hz151
            refine lv_i2l hx hb d_La_law_163 rfl ?_
            refine lv_topl (fun y152 hy152 => ?_)
            refine lv_ldc2 hx hb hown (hts _ mw_1547) d_La_law_164 ?_
            refine lv_topl (fun c4294967295_153 hc4294967295_153 => ?_)
            refine lv_land hx hb d_La_law_167 ?_
            refine lv_topl (fun y154 hy154 => ?_)
            refine lv_lor hx hb d_La_law_168 ?_
            refine lv_topl (fun y155 hy155 => ?_)
            refine lv_aload_n hx hb d_La_law_169 rfl (lv_at hl 1 rfl) ?_
            refine lv_iload hx hb d_La_law_170 (lv_at hl 5 rfl) ?_
            refine sn_iconst hx hb d_La_law_172 (by decide) (fun z156 hz156 => ?_)
            refine sn_iadd hx hb d_La_law_173 (by omega) (by omega) (fun z157 hz157 => ?_)
            refine va_sld hx hb hX hbl hbA hI.2 (sv_in (by omega) (by omega)) d_La_law_174 ?_
            refine sn_tope (fun z158 hz158 => ?_)
            have hz158x : z158.toInt = (xs (v23_4.toInt + 4).toNat).toInt := by rw [hz158, show z157.toNatClampNeg = (v23_4.toInt + 4).toNat from by rw [← show z157.toInt = v23_4.toInt + 4 by omega]; rfl]
            have hz158r := sn_rng z158
            clear hz158
            refine tz_call (A1 := ga (adM (fun k => a (200 + k))) H.size) (tz_runV (C := "StoryMachineModel") (As := [.int z142, .long y155, .int z158]) (rest := []) ⟨hx, hb, hml, hown, hts⟩ (c_Mo_poke l hfl dC dI cI cJ (fun k => a (200 + k)) H.size t23_mth t23_mtr t23_mdp t23_mzi t23_mco t23_msh t23_mlt t23_mts t23_mmf z142 y155 z158 ⟨ho139.2.2.2.2.2.2.2.2.2.1, ho139.2.2.2.2.2.2.2.2.2.2.1, ho139.2.2.2.2.2.2.2.2.2.2.2.1, ho139.2.2.2.2.2.2.2.2.2.2.2.2.1, ho139.2.2.2.2.2.2.2.2.2.2.2.2.2.1, ho139.2.2.2.2.2.2.2.2.2.2.2.2.2.2.1, ho139.2.2.2.2.2.2.2.2.2.2.2.2.2.2.2.1, ho139.2.2.2.2.2.2.2.2.2.2.2.2.2.2.2.2.1, ho139.2.2.2.2.2.2.2.2.2.2.2.2.2.2.2.2.2.2.2.2⟩) (tx_cb (n := 3) hts rfl rfl ⟨Nat.le_of_ble_eq_true rfl, Nat.le_of_ble_eq_true rfl⟩ (tx_code.of (hts _ mw_1500)) (hts _ mw_12) (by decide +kernel) (hts _ mw_1497)) (hts _ mw_1498) (hts _ mw_1499) ⟨tz_blind, sv_recv (q0 := 0) hts in_Mo hK (show sI (dC, dI) vcl cI cJ _ A s.heap H locs from ⟨(sh_app (s1 := gsC a t23_he t23_dp t23_co t23_li t23_op t23_wd t23_tl t23_lc t23_fo t23_sf t23_lf t23_nf) (s2 := gsM (fun k => a (200 + k)) t23_mth t23_mtr t23_mdp t23_mzi t23_mco t23_msh t23_mlt t23_mts t23_mmf) hI.1).2.1, hI.2⟩) kM_0 rfl, fun U hU hW => ⟨rfl, by rw [hU], by rw [hU]; exact (sh_app (s1 := gsC a t23_he t23_dp t23_co t23_li t23_op t23_wd t23_tl t23_lc t23_fo t23_sf t23_lf t23_nf) (s2 := gsM (fun k => a (200 + k)) t23_mth t23_mtr t23_mdp t23_mzi t23_mco t23_msh t23_mlt t23_mts t23_mmf) hI.1).2.1, va_K.moved hW.alike hK, hstM _ _ hI.2 U hU hW⟩⟩ rfl rfl hl.1 rfl (lv_room (Nat.le_of_ble_eq_true rfl)) d_La_law_175 ⟨by show (59 + 301 * (513 - (n + 1))) + 0 ≤ 601024; omega, by show (3561 + 1806 * (513 - (n + 1))) + 0 ≤ 7293034; omega⟩) hI.2 (fun q _ h => ga_sub hACM hA0 hI.2 q h) (ga_sub hACM hA0 hI.2) (fun v t H1 locs1 ht hWt hpost _ hk1 hS => ?_) (fun x t H1 locs1 ht hWt hpost _ _ hS => (hpost.2 x rfl).elim)
            rcases hpost.1 _ rfl with ⟨t_th159, hv, c160, c160_0, c160_1, c160_2, hI1⟩ | ⟨t_th161, f_mf162, hv, c163, c163_0, c163_1, c163_2, c163_3, c163_4, c163_5, c163_6, c163_7, c163_8, hI1⟩
            · cases hv
              have hI : sI (dC, dI) vcl cI cJ (gsB a t23_he t23_dp t23_co t23_li t23_op t23_wd t23_tl t23_lc t23_fo t_th159 t23_mtr t23_mdp t23_mzi t23_mco t23_msh t23_mlt t23_mts t23_sf t23_lf t23_nf t23_mmf) A s.heap H1 locs1 := ⟨sh_callM (s1 := gsC a t23_he t23_dp t23_co t23_li t23_op t23_wd t23_tl t23_lc t23_fo t23_sf t23_lf t23_nf) (s2 := gsM (fun k => a (200 + k)) t23_mth t23_mtr t23_mdp t23_mzi t23_mco t23_msh t23_mlt t23_mts t23_mmf) (s2' := gsM (fun k => a (200 + k)) t_th159 t23_mtr t23_mdp t23_mzi t23_mco t23_msh t23_mlt t23_mts t23_mmf) hI.1 adM_map adM_map hk1 (by rw [← ht]; exact hI1), hS⟩
              have ho164 : okB t23_he t23_dp t23_co t23_li t23_op t23_wd t23_tl t23_lc t23_fo t_th159 t23_mtr t23_mdp t23_mzi t23_mco t23_msh t23_mlt t23_mts t23_sf t23_lf t23_nf t23_mmf := ⟨ho139.1, ho139.2.1, ho139.2.2.1, ho139.2.2.2.1, ho139.2.2.2.2.1, ho139.2.2.2.2.2.1, ho139.2.2.2.2.2.2.1, ho139.2.2.2.2.2.2.2.1, ho139.2.2.2.2.2.2.2.2.1, c160.1, c160.2.1, c160.2.2.1, c160.2.2.2.1, c160.2.2.2.2.1, c160.2.2.2.2.2.1, c160.2.2.2.2.2.2.1, c160.2.2.2.2.2.2.2.1, ho139.2.2.2.2.2.2.2.2.2.2.2.2.2.2.2.2.2.1, ho139.2.2.2.2.2.2.2.2.2.2.2.2.2.2.2.2.2.2.1, ho139.2.2.2.2.2.2.2.2.2.2.2.2.2.2.2.2.2.2.2.1, c160.2.2.2.2.2.2.2.2⟩
              obtain ⟨-, -, -, -, -, -, -, -, -, ⟨o165, o166⟩, -, -, -, -, -, -, -, -, -, -, -⟩ := id ho164
              clear hpost hI1 hS ht hWt hk1
              revert hI; generalize H1 = H; generalize locs1 = locs; intro hI
              refine W.widen (k := (59 + 301 * (513 - (n + 1)))) (n := (3561 + 1806 * (513 - (n + 1)))) (by omega) (by omega) ?_
              refine lv_aload_n hx hb d_La_law_178 rfl (lv_at hl 3 rfl) ?_
              refine tz_call (A1 := ga (adM (fun k => a (200 + k))) H.size) (tz_runV (C := "StoryMachineModel") (As := []) (rest := []) ⟨hx, hb, hml, hown, hts⟩ (c_Mo_thrown l hfl dC dI cI cJ (fun k => a (200 + k)) H.size t_th159 t23_mtr t23_mdp t23_mzi t23_mco t23_msh t23_mlt t23_mts t23_mmf  ⟨ho164.2.2.2.2.2.2.2.2.2.1, ho164.2.2.2.2.2.2.2.2.2.2.1, ho164.2.2.2.2.2.2.2.2.2.2.2.1, ho164.2.2.2.2.2.2.2.2.2.2.2.2.1, ho164.2.2.2.2.2.2.2.2.2.2.2.2.2.1, ho164.2.2.2.2.2.2.2.2.2.2.2.2.2.2.1, ho164.2.2.2.2.2.2.2.2.2.2.2.2.2.2.2.1, ho164.2.2.2.2.2.2.2.2.2.2.2.2.2.2.2.2.1, ho164.2.2.2.2.2.2.2.2.2.2.2.2.2.2.2.2.2.2.2.2⟩) (tx_cb (n := 0) hts rfl rfl ⟨Nat.le_of_ble_eq_true rfl, Nat.le_of_ble_eq_true rfl⟩ (tx_code.of (hts _ mw_1220)) (hts _ mw_12) (by decide +kernel) (hts _ mw_1217)) (hts _ mw_1218) (hts _ mw_1219) ⟨tz_blind, sv_recv (q0 := 0) hts in_Mo hK (show sI (dC, dI) vcl cI cJ _ A s.heap H locs from ⟨(sh_app (s1 := gsC a t23_he t23_dp t23_co t23_li t23_op t23_wd t23_tl t23_lc t23_fo t23_sf t23_lf t23_nf) (s2 := gsM (fun k => a (200 + k)) t_th159 t23_mtr t23_mdp t23_mzi t23_mco t23_msh t23_mlt t23_mts t23_mmf) hI.1).2.1, hI.2⟩) kM_0 rfl, fun U hU hW => ⟨rfl, by rw [hU], by rw [hU]; exact (sh_app (s1 := gsC a t23_he t23_dp t23_co t23_li t23_op t23_wd t23_tl t23_lc t23_fo t23_sf t23_lf t23_nf) (s2 := gsM (fun k => a (200 + k)) t_th159 t23_mtr t23_mdp t23_mzi t23_mco t23_msh t23_mlt t23_mts t23_mmf) hI.1).2.1, va_K.moved hW.alike hK, hstM _ _ hI.2 U hU hW⟩⟩ rfl rfl hl.1 rfl (lv_room (Nat.le_of_ble_eq_true rfl)) d_La_law_179 ⟨by show (59 + 301 * (513 - (n + 1))) + 0 ≤ 601024; omega, by show (3561 + 1806 * (513 - (n + 1))) + 0 ≤ 7293034; omega⟩) hI.2 (fun q _ h => ga_sub hACM hA0 hI.2 q h) (ga_sub hACM hA0 hI.2) (fun v t H1 locs1 ht hWt hpost _ hk1 hS => ?_) (fun x t H1 locs1 ht hWt hpost _ _ hS => (hpost.2 x rfl).elim)
              rcases hpost.1 _ rfl with ⟨z167, hv, c168, c168_0, c168_1, c168_2, hI1⟩
              cases hv
              have hI : sI (dC, dI) vcl cI cJ (gsB a t23_he t23_dp t23_co t23_li t23_op t23_wd t23_tl t23_lc t23_fo t_th159 t23_mtr t23_mdp t23_mzi t23_mco t23_msh t23_mlt t23_mts t23_sf t23_lf t23_nf t23_mmf) A s.heap H1 locs1 := ⟨sh_callM (s1 := gsC a t23_he t23_dp t23_co t23_li t23_op t23_wd t23_tl t23_lc t23_fo t23_sf t23_lf t23_nf) (s2 := gsM (fun k => a (200 + k)) t_th159 t23_mtr t23_mdp t23_mzi t23_mco t23_msh t23_mlt t23_mts t23_mmf) (s2' := gsM (fun k => a (200 + k)) t_th159 t23_mtr t23_mdp t23_mzi t23_mco t23_msh t23_mlt t23_mts t23_mmf) hI.1 adM_map adM_map hk1 (by rw [← ht]; exact hI1), hS⟩
              have ho169 : okB t23_he t23_dp t23_co t23_li t23_op t23_wd t23_tl t23_lc t23_fo t_th159 t23_mtr t23_mdp t23_mzi t23_mco t23_msh t23_mlt t23_mts t23_sf t23_lf t23_nf t23_mmf := ⟨ho164.1, ho164.2.1, ho164.2.2.1, ho164.2.2.2.1, ho164.2.2.2.2.1, ho164.2.2.2.2.2.1, ho164.2.2.2.2.2.2.1, ho164.2.2.2.2.2.2.2.1, ho164.2.2.2.2.2.2.2.2.1, c168.1, c168.2.1, c168.2.2.1, c168.2.2.2.1, c168.2.2.2.2.1, c168.2.2.2.2.2.1, c168.2.2.2.2.2.2.1, c168.2.2.2.2.2.2.2.1, ho164.2.2.2.2.2.2.2.2.2.2.2.2.2.2.2.2.2.1, ho164.2.2.2.2.2.2.2.2.2.2.2.2.2.2.2.2.2.2.1, ho164.2.2.2.2.2.2.2.2.2.2.2.2.2.2.2.2.2.2.2.1, c168.2.2.2.2.2.2.2.2⟩
              clear hpost hI1 hS ht hWt hk1
              revert hI; generalize H1 = H; generalize locs1 = locs; intro hI
              refine W.widen (k := (59 + 301 * (513 - (n + 1)))) (n := (3561 + 1806 * (513 - (n + 1)))) (by omega) (by omega) ?_
              refine lv_iload hx hb d_La_law_182 (lv_at hl 0 rfl) ?_
              refine sn_icmp_eq (tgt := 189) hx hb d_La_law_184 (by decide) (fun b170 => ?_) (fun b170 => ?_)
              · refine lv_goto (tgt := 464) hx hb d_La_law_189 (by decide) ?_
                refine W.widen (k := (359 + 301 * (513 - (n + 1)))) (n := (5361 + 1806 * (513 - (n + 1)))) (by omega) (by omega) ?_
                exact j464 _ _ _ t23_he t23_dp t23_co t23_li t23_op t23_wd t23_tl t23_lc t23_fo t_th159 t23_mtr t23_mdp t23_mzi t23_mco t23_msh t23_mlt t23_mts t23_sf t23_lf t23_nf t23_mmf hI ho169 (by omega) (by omega) (lv_sub hl [1, 2, 3, 4, 5] rfl)
              · exfalso; omega
            · cases hv
              have hI : sI (dC, dI) vcl cI cJ (gsB a t23_he t23_dp t23_co t23_li t23_op t23_wd t23_tl t23_lc t23_fo t_th161 t23_mtr t23_mdp t23_mzi t23_mco t23_msh t23_mlt t23_mts t23_sf t23_lf t23_nf f_mf162) A s.heap H1 locs1 := ⟨sh_callM (s1 := gsC a t23_he t23_dp t23_co t23_li t23_op t23_wd t23_tl t23_lc t23_fo t23_sf t23_lf t23_nf) (s2 := gsM (fun k => a (200 + k)) t23_mth t23_mtr t23_mdp t23_mzi t23_mco t23_msh t23_mlt t23_mts t23_mmf) (s2' := gsM (fun k => a (200 + k)) t_th161 t23_mtr t23_mdp t23_mzi t23_mco t23_msh t23_mlt t23_mts f_mf162) hI.1 adM_map adM_map hk1 (by rw [← ht]; exact hI1), hS⟩
              have ho171 : okB t23_he t23_dp t23_co t23_li t23_op t23_wd t23_tl t23_lc t23_fo t_th161 t23_mtr t23_mdp t23_mzi t23_mco t23_msh t23_mlt t23_mts t23_sf t23_lf t23_nf f_mf162 := ⟨ho139.1, ho139.2.1, ho139.2.2.1, ho139.2.2.2.1, ho139.2.2.2.2.1, ho139.2.2.2.2.2.1, ho139.2.2.2.2.2.2.1, ho139.2.2.2.2.2.2.2.1, ho139.2.2.2.2.2.2.2.2.1, c163.1, c163.2.1, c163.2.2.1, c163.2.2.2.1, c163.2.2.2.2.1, c163.2.2.2.2.2.1, c163.2.2.2.2.2.2.1, c163.2.2.2.2.2.2.2.1, ho139.2.2.2.2.2.2.2.2.2.2.2.2.2.2.2.2.2.1, ho139.2.2.2.2.2.2.2.2.2.2.2.2.2.2.2.2.2.2.1, ho139.2.2.2.2.2.2.2.2.2.2.2.2.2.2.2.2.2.2.2.1, c163.2.2.2.2.2.2.2.2⟩
              obtain ⟨-, -, -, -, -, -, -, -, -, ⟨o172, o173⟩, -, -, -, -, -, -, -, -, -, -, -⟩ := id ho171
              clear hpost hI1 hS ht hWt hk1
              revert hI; generalize H1 = H; generalize locs1 = locs; intro hI
              refine W.widen (k := (59 + 301 * (513 - (n + 1)))) (n := (3561 + 1806 * (513 - (n + 1)))) (by omega) (by omega) ?_
              refine lv_aload_n hx hb d_La_law_178 rfl (lv_at hl 3 rfl) ?_
              refine tz_call (A1 := ga (adM (fun k => a (200 + k))) H.size) (tz_runV (C := "StoryMachineModel") (As := []) (rest := []) ⟨hx, hb, hml, hown, hts⟩ (c_Mo_thrown l hfl dC dI cI cJ (fun k => a (200 + k)) H.size t_th161 t23_mtr t23_mdp t23_mzi t23_mco t23_msh t23_mlt t23_mts f_mf162  ⟨ho171.2.2.2.2.2.2.2.2.2.1, ho171.2.2.2.2.2.2.2.2.2.2.1, ho171.2.2.2.2.2.2.2.2.2.2.2.1, ho171.2.2.2.2.2.2.2.2.2.2.2.2.1, ho171.2.2.2.2.2.2.2.2.2.2.2.2.2.1, ho171.2.2.2.2.2.2.2.2.2.2.2.2.2.2.1, ho171.2.2.2.2.2.2.2.2.2.2.2.2.2.2.2.1, ho171.2.2.2.2.2.2.2.2.2.2.2.2.2.2.2.2.1, ho171.2.2.2.2.2.2.2.2.2.2.2.2.2.2.2.2.2.2.2.2⟩) (tx_cb (n := 0) hts rfl rfl ⟨Nat.le_of_ble_eq_true rfl, Nat.le_of_ble_eq_true rfl⟩ (tx_code.of (hts _ mw_1220)) (hts _ mw_12) (by decide +kernel) (hts _ mw_1217)) (hts _ mw_1218) (hts _ mw_1219) ⟨tz_blind, sv_recv (q0 := 0) hts in_Mo hK (show sI (dC, dI) vcl cI cJ _ A s.heap H locs from ⟨(sh_app (s1 := gsC a t23_he t23_dp t23_co t23_li t23_op t23_wd t23_tl t23_lc t23_fo t23_sf t23_lf t23_nf) (s2 := gsM (fun k => a (200 + k)) t_th161 t23_mtr t23_mdp t23_mzi t23_mco t23_msh t23_mlt t23_mts f_mf162) hI.1).2.1, hI.2⟩) kM_0 rfl, fun U hU hW => ⟨rfl, by rw [hU], by rw [hU]; exact (sh_app (s1 := gsC a t23_he t23_dp t23_co t23_li t23_op t23_wd t23_tl t23_lc t23_fo t23_sf t23_lf t23_nf) (s2 := gsM (fun k => a (200 + k)) t_th161 t23_mtr t23_mdp t23_mzi t23_mco t23_msh t23_mlt t23_mts f_mf162) hI.1).2.1, va_K.moved hW.alike hK, hstM _ _ hI.2 U hU hW⟩⟩ rfl rfl hl.1 rfl (lv_room (Nat.le_of_ble_eq_true rfl)) d_La_law_179 ⟨by show (59 + 301 * (513 - (n + 1))) + 0 ≤ 601024; omega, by show (3561 + 1806 * (513 - (n + 1))) + 0 ≤ 7293034; omega⟩) hI.2 (fun q _ h => ga_sub hACM hA0 hI.2 q h) (ga_sub hACM hA0 hI.2) (fun v t H1 locs1 ht hWt hpost _ hk1 hS => ?_) (fun x t H1 locs1 ht hWt hpost _ _ hS => (hpost.2 x rfl).elim)
              rcases hpost.1 _ rfl with ⟨z174, hv, c175, c175_0, c175_1, c175_2, hI1⟩
              cases hv
              have hI : sI (dC, dI) vcl cI cJ (gsB a t23_he t23_dp t23_co t23_li t23_op t23_wd t23_tl t23_lc t23_fo t_th161 t23_mtr t23_mdp t23_mzi t23_mco t23_msh t23_mlt t23_mts t23_sf t23_lf t23_nf f_mf162) A s.heap H1 locs1 := ⟨sh_callM (s1 := gsC a t23_he t23_dp t23_co t23_li t23_op t23_wd t23_tl t23_lc t23_fo t23_sf t23_lf t23_nf) (s2 := gsM (fun k => a (200 + k)) t_th161 t23_mtr t23_mdp t23_mzi t23_mco t23_msh t23_mlt t23_mts f_mf162) (s2' := gsM (fun k => a (200 + k)) t_th161 t23_mtr t23_mdp t23_mzi t23_mco t23_msh t23_mlt t23_mts f_mf162) hI.1 adM_map adM_map hk1 (by rw [← ht]; exact hI1), hS⟩
              have ho176 : okB t23_he t23_dp t23_co t23_li t23_op t23_wd t23_tl t23_lc t23_fo t_th161 t23_mtr t23_mdp t23_mzi t23_mco t23_msh t23_mlt t23_mts t23_sf t23_lf t23_nf f_mf162 := ⟨ho171.1, ho171.2.1, ho171.2.2.1, ho171.2.2.2.1, ho171.2.2.2.2.1, ho171.2.2.2.2.2.1, ho171.2.2.2.2.2.2.1, ho171.2.2.2.2.2.2.2.1, ho171.2.2.2.2.2.2.2.2.1, c175.1, c175.2.1, c175.2.2.1, c175.2.2.2.1, c175.2.2.2.2.1, c175.2.2.2.2.2.1, c175.2.2.2.2.2.2.1, c175.2.2.2.2.2.2.2.1, ho171.2.2.2.2.2.2.2.2.2.2.2.2.2.2.2.2.2.1, ho171.2.2.2.2.2.2.2.2.2.2.2.2.2.2.2.2.2.2.1, ho171.2.2.2.2.2.2.2.2.2.2.2.2.2.2.2.2.2.2.2.1, c175.2.2.2.2.2.2.2.2⟩
              clear hpost hI1 hS ht hWt hk1
              revert hI; generalize H1 = H; generalize locs1 = locs; intro hI
              refine W.widen (k := (59 + 301 * (513 - (n + 1)))) (n := (3561 + 1806 * (513 - (n + 1)))) (by omega) (by omega) ?_
              refine lv_iload hx hb d_La_law_182 (lv_at hl 0 rfl) ?_
              refine sn_icmp_eq (tgt := 189) hx hb d_La_law_184 (by decide) (fun b177 => ?_) (fun b177 => ?_)
              · refine lv_goto (tgt := 464) hx hb d_La_law_189 (by decide) ?_
                refine W.widen (k := (359 + 301 * (513 - (n + 1)))) (n := (5361 + 1806 * (513 - (n + 1)))) (by omega) (by omega) ?_
                exact j464 _ _ _ t23_he t23_dp t23_co t23_li t23_op t23_wd t23_tl t23_lc t23_fo t_th161 t23_mtr t23_mdp t23_mzi t23_mco t23_msh t23_mlt t23_mts t23_sf t23_lf t23_nf f_mf162 hI ho176 (by omega) (by omega) (lv_sub hl [1, 2, 3, 4, 5] rfl)
              · exfalso; omega
          · cases hv
            have hI : sI (dC, dI) vcl cI cJ (gsB a t23_he t23_dp t23_co t23_li t23_op t23_wd t23_tl t23_lc t23_fo t23_mth t23_mtr t23_mdp t23_mzi t23_mco t23_msh t23_mlt t23_mts t23_sf t23_lf t23_nf t23_mmf) A s.heap H1 locs1 := ⟨sh_callC (s1 := gsC a t23_he t23_dp t23_co t23_li t23_op t23_wd t23_tl t23_lc t23_fo t23_sf t23_lf t23_nf) (s2 := gsM (fun k => a (200 + k)) t23_mth t23_mtr t23_mdp t23_mzi t23_mco t23_msh t23_mlt t23_mts t23_mmf) (s1' := gsC a t23_he t23_dp t23_co t23_li t23_op t23_wd t23_tl t23_lc t23_fo t23_sf t23_lf t23_nf) hI.1 adC_map adC_map hk1 (by rw [← ht]; exact hI1), hS⟩
            have ho178 : okB t23_he t23_dp t23_co t23_li t23_op t23_wd t23_tl t23_lc t23_fo t23_mth t23_mtr t23_mdp t23_mzi t23_mco t23_msh t23_mlt t23_mts t23_sf t23_lf t23_nf t23_mmf := ⟨c138.1, c138.2.1, c138.2.2.1, c138.2.2.2.1, c138.2.2.2.2.1, c138.2.2.2.2.2.1, c138.2.2.2.2.2.2.1, c138.2.2.2.2.2.2.2.1, c138.2.2.2.2.2.2.2.2.1, hok.2.2.2.2.2.2.2.2.2.1, hok.2.2.2.2.2.2.2.2.2.2.1, hok.2.2.2.2.2.2.2.2.2.2.2.1, hok.2.2.2.2.2.2.2.2.2.2.2.2.1, hok.2.2.2.2.2.2.2.2.2.2.2.2.2.1, hok.2.2.2.2.2.2.2.2.2.2.2.2.2.2.1, hok.2.2.2.2.2.2.2.2.2.2.2.2.2.2.2.1, hok.2.2.2.2.2.2.2.2.2.2.2.2.2.2.2.2.1, c138.2.2.2.2.2.2.2.2.2.1, c138.2.2.2.2.2.2.2.2.2.2.1, c138.2.2.2.2.2.2.2.2.2.2.2, hok.2.2.2.2.2.2.2.2.2.2.2.2.2.2.2.2.2.2.2.2⟩
            clear hpost hI1 hS ht hWt hk1
            revert hI; generalize H1 = H; generalize locs1 = locs; intro hI
            refine W.widen (k := (59 + 301 * (513 - (n + 1)))) (n := (3561 + 1806 * (513 - (n + 1)))) (by omega) (by omega) ?_
            refine lv_istore (lv' := [(5, .int z137), (0, .ref b), (1, .ref (a 0)), (2, .ref (a 200)), (3, .ref (a 35)), (4, .int v23_4)]) hx hb d_La_law_138 hl (by decide) rfl (fun ls hl => ?_)
            refine lv_aload_n hx hb d_La_law_140 rfl (lv_at hl 3 rfl) ?_
            refine lv_aload_n hx hb d_La_law_141 rfl (lv_at hl 1 rfl) ?_
            refine lv_iload hx hb d_La_law_142 (lv_at hl 5 rfl) ?_
            refine sn_iconst hx hb d_La_law_144 (by decide) (fun z179 hz179 => ?_)
            refine sn_iadd hx hb d_La_law_145 (by omega) (by omega) (fun z180 hz180 => ?_)
            refine va_sld hx hb hX hbl hbA hI.2 (sv_in (by omega) (by omega)) d_La_law_146 ?_
            refine sn_tope (fun z181 hz181 => ?_)
            have hz181x : z181.toInt = (xs (v23_4.toInt + 1).toNat).toInt := by rw [hz181, show z180.toNatClampNeg = (v23_4.toInt + 1).toNat from by rw [← show z180.toInt = v23_4.toInt + 1 by omega]; rfl]
            have hz181r := sn_rng z181
            clear hz181
            refine lv_aload_n hx hb d_La_law_147 rfl (lv_at hl 1 rfl) ?_
            refine lv_iload hx hb d_La_law_148 (lv_at hl 5 rfl) ?_
            refine sn_iconst hx hb d_La_law_150 (by decide) (fun z182 hz182 => ?_)
            refine sn_iadd hx hb d_La_law_151 (by omega) (by omega) (fun z183 hz183 => ?_)
            refine va_sld hx hb hX hbl hbA hI.2 (sv_in (by omega) (by omega)) d_La_law_152 ?_
            refine sn_tope (fun z184 hz184 => ?_)
            have hz184x : z184.toInt = (xs (v23_4.toInt + 2).toNat).toInt := by rw [hz184, show z183.toNatClampNeg = (v23_4.toInt + 2).toNat from by rw [← show z183.toInt = v23_4.toInt + 2 by omega]; rfl]
            have hz184r := sn_rng z184
            clear hz184
            refine lv_i2l hx hb d_La_law_153 rfl ?_
            refine lv_topl (fun y185 hy185 => ?_)
            refine sn_bipush hx hb d_La_law_154 (by decide) (fun z186 hz186 => ?_)
            refine lv_lshl hx hb d_La_law_156 rfl ?_
            refine lv_topl (fun y187 hy187 => ?_)
            refine lv_aload_n hx hb d_La_law_157 rfl (lv_at hl 1 rfl) ?_
            refine lv_iload hx hb d_La_law_158 (lv_at hl 5 rfl) ?_
            refine sn_iconst hx hb d_La_law_160 (by decide) (fun z188 hz188 => ?_)
            refine sn_iadd hx hb d_La_law_161 (by omega) (by omega) (fun z189 hz189 => ?_)
            refine va_sld hx hb hX hbl hbA hI.2 (sv_in (by omega) (by omega)) d_La_law_162 ?_
            refine sn_tope (fun z190 hz190 => ?_)
            have hz190x : z190.toInt = (xs (v23_4.toInt + 3).toNat).toInt := by rw [hz190, show z189.toNatClampNeg = (v23_4.toInt + 3).toNat from by rw [← show z189.toInt = v23_4.toInt + 3 by omega]; rfl]
            have hz190r := sn_rng z190
            clear hz190
            refine lv_i2l hx hb d_La_law_163 rfl ?_
            refine lv_topl (fun y191 hy191 => ?_)
            refine lv_ldc2 hx hb hown (hts _ mw_1547) d_La_law_164 ?_
            refine lv_topl (fun c4294967295_192 hc4294967295_192 => ?_)
            refine lv_land hx hb d_La_law_167 ?_
            refine lv_topl (fun y193 hy193 => ?_)
            refine lv_lor hx hb d_La_law_168 ?_
            refine lv_topl (fun y194 hy194 => ?_)
            refine lv_aload_n hx hb d_La_law_169 rfl (lv_at hl 1 rfl) ?_
            refine lv_iload hx hb d_La_law_170 (lv_at hl 5 rfl) ?_
            refine sn_iconst hx hb d_La_law_172 (by decide) (fun z195 hz195 => ?_)
            refine sn_iadd hx hb d_La_law_173 (by omega) (by omega) (fun z196 hz196 => ?_)
            refine va_sld hx hb hX hbl hbA hI.2 (sv_in (by omega) (by omega)) d_La_law_174 ?_
            refine sn_tope (fun z197 hz197 => ?_)
            have hz197x : z197.toInt = (xs (v23_4.toInt + 4).toNat).toInt := by rw [hz197, show z196.toNatClampNeg = (v23_4.toInt + 4).toNat from by rw [← show z196.toInt = v23_4.toInt + 4 by omega]; rfl]
            have hz197r := sn_rng z197
            clear hz197
            refine tz_call (A1 := ga (adM (fun k => a (200 + k))) H.size) (tz_runV (C := "StoryMachineModel") (As := [.int z181, .long y194, .int z197]) (rest := []) ⟨hx, hb, hml, hown, hts⟩ (c_Mo_poke l hfl dC dI cI cJ (fun k => a (200 + k)) H.size t23_mth t23_mtr t23_mdp t23_mzi t23_mco t23_msh t23_mlt t23_mts t23_mmf z181 y194 z197 ⟨ho178.2.2.2.2.2.2.2.2.2.1, ho178.2.2.2.2.2.2.2.2.2.2.1, ho178.2.2.2.2.2.2.2.2.2.2.2.1, ho178.2.2.2.2.2.2.2.2.2.2.2.2.1, ho178.2.2.2.2.2.2.2.2.2.2.2.2.2.1, ho178.2.2.2.2.2.2.2.2.2.2.2.2.2.2.1, ho178.2.2.2.2.2.2.2.2.2.2.2.2.2.2.2.1, ho178.2.2.2.2.2.2.2.2.2.2.2.2.2.2.2.2.1, ho178.2.2.2.2.2.2.2.2.2.2.2.2.2.2.2.2.2.2.2.2⟩) (tx_cb (n := 3) hts rfl rfl ⟨Nat.le_of_ble_eq_true rfl, Nat.le_of_ble_eq_true rfl⟩ (tx_code.of (hts _ mw_1500)) (hts _ mw_12) (by decide +kernel) (hts _ mw_1497)) (hts _ mw_1498) (hts _ mw_1499) ⟨tz_blind, sv_recv (q0 := 0) hts in_Mo hK (show sI (dC, dI) vcl cI cJ _ A s.heap H locs from ⟨(sh_app (s1 := gsC a t23_he t23_dp t23_co t23_li t23_op t23_wd t23_tl t23_lc t23_fo t23_sf t23_lf t23_nf) (s2 := gsM (fun k => a (200 + k)) t23_mth t23_mtr t23_mdp t23_mzi t23_mco t23_msh t23_mlt t23_mts t23_mmf) hI.1).2.1, hI.2⟩) kM_0 rfl, fun U hU hW => ⟨rfl, by rw [hU], by rw [hU]; exact (sh_app (s1 := gsC a t23_he t23_dp t23_co t23_li t23_op t23_wd t23_tl t23_lc t23_fo t23_sf t23_lf t23_nf) (s2 := gsM (fun k => a (200 + k)) t23_mth t23_mtr t23_mdp t23_mzi t23_mco t23_msh t23_mlt t23_mts t23_mmf) hI.1).2.1, va_K.moved hW.alike hK, hstM _ _ hI.2 U hU hW⟩⟩ rfl rfl hl.1 rfl (lv_room (Nat.le_of_ble_eq_true rfl)) d_La_law_175 ⟨by show (59 + 301 * (513 - (n + 1))) + 0 ≤ 601024; omega, by show (3561 + 1806 * (513 - (n + 1))) + 0 ≤ 7293034; omega⟩) hI.2 (fun q _ h => ga_sub hACM hA0 hI.2 q h) (ga_sub hACM hA0 hI.2) (fun v t H1 locs1 ht hWt hpost _ hk1 hS => ?_) (fun x t H1 locs1 ht hWt hpost _ _ hS => (hpost.2 x rfl).elim)
            rcases hpost.1 _ rfl with ⟨t_th198, hv, c199, c199_0, c199_1, c199_2, hI1⟩ | ⟨t_th200, f_mf201, hv, c202, c202_0, c202_1, c202_2, c202_3, c202_4, c202_5, c202_6, c202_7, c202_8, hI1⟩
            · cases hv
              have hI : sI (dC, dI) vcl cI cJ (gsB a t23_he t23_dp t23_co t23_li t23_op t23_wd t23_tl t23_lc t23_fo t_th198 t23_mtr t23_mdp t23_mzi t23_mco t23_msh t23_mlt t23_mts t23_sf t23_lf t23_nf t23_mmf) A s.heap H1 locs1 := ⟨sh_callM (s1 := gsC a t23_he t23_dp t23_co t23_li t23_op t23_wd t23_tl t23_lc t23_fo t23_sf t23_lf t23_nf) (s2 := gsM (fun k => a (200 + k)) t23_mth t23_mtr t23_mdp t23_mzi t23_mco t23_msh t23_mlt t23_mts t23_mmf) (s2' := gsM (fun k => a (200 + k)) t_th198 t23_mtr t23_mdp t23_mzi t23_mco t23_msh t23_mlt t23_mts t23_mmf) hI.1 adM_map adM_map hk1 (by rw [← ht]; exact hI1), hS⟩
              have ho203 : okB t23_he t23_dp t23_co t23_li t23_op t23_wd t23_tl t23_lc t23_fo t_th198 t23_mtr t23_mdp t23_mzi t23_mco t23_msh t23_mlt t23_mts t23_sf t23_lf t23_nf t23_mmf := ⟨ho178.1, ho178.2.1, ho178.2.2.1, ho178.2.2.2.1, ho178.2.2.2.2.1, ho178.2.2.2.2.2.1, ho178.2.2.2.2.2.2.1, ho178.2.2.2.2.2.2.2.1, ho178.2.2.2.2.2.2.2.2.1, c199.1, c199.2.1, c199.2.2.1, c199.2.2.2.1, c199.2.2.2.2.1, c199.2.2.2.2.2.1, c199.2.2.2.2.2.2.1, c199.2.2.2.2.2.2.2.1, ho178.2.2.2.2.2.2.2.2.2.2.2.2.2.2.2.2.2.1, ho178.2.2.2.2.2.2.2.2.2.2.2.2.2.2.2.2.2.2.1, ho178.2.2.2.2.2.2.2.2.2.2.2.2.2.2.2.2.2.2.2.1, c199.2.2.2.2.2.2.2.2⟩
              obtain ⟨-, -, -, -, -, -, -, -, -, ⟨o204, o205⟩, -, -, -, -, -, -, -, -, -, -, -⟩ := id ho203
              clear hpost hI1 hS ht hWt hk1
              revert hI; generalize H1 = H; generalize locs1 = locs; intro hI
              refine W.widen (k := (59 + 301 * (513 - (n + 1)))) (n := (3561 + 1806 * (513 - (n + 1)))) (by omega) (by omega) ?_
              refine lv_aload_n hx hb d_La_law_178 rfl (lv_at hl 3 rfl) ?_
              refine tz_call (A1 := ga (adM (fun k => a (200 + k))) H.size) (tz_runV (C := "StoryMachineModel") (As := []) (rest := []) ⟨hx, hb, hml, hown, hts⟩ (c_Mo_thrown l hfl dC dI cI cJ (fun k => a (200 + k)) H.size t_th198 t23_mtr t23_mdp t23_mzi t23_mco t23_msh t23_mlt t23_mts t23_mmf  ⟨ho203.2.2.2.2.2.2.2.2.2.1, ho203.2.2.2.2.2.2.2.2.2.2.1, ho203.2.2.2.2.2.2.2.2.2.2.2.1, ho203.2.2.2.2.2.2.2.2.2.2.2.2.1, ho203.2.2.2.2.2.2.2.2.2.2.2.2.2.1, ho203.2.2.2.2.2.2.2.2.2.2.2.2.2.2.1, ho203.2.2.2.2.2.2.2.2.2.2.2.2.2.2.2.1, ho203.2.2.2.2.2.2.2.2.2.2.2.2.2.2.2.2.1, ho203.2.2.2.2.2.2.2.2.2.2.2.2.2.2.2.2.2.2.2.2⟩) (tx_cb (n := 0) hts rfl rfl ⟨Nat.le_of_ble_eq_true rfl, Nat.le_of_ble_eq_true rfl⟩ (tx_code.of (hts _ mw_1220)) (hts _ mw_12) (by decide +kernel) (hts _ mw_1217)) (hts _ mw_1218) (hts _ mw_1219) ⟨tz_blind, sv_recv (q0 := 0) hts in_Mo hK (show sI (dC, dI) vcl cI cJ _ A s.heap H locs from ⟨(sh_app (s1 := gsC a t23_he t23_dp t23_co t23_li t23_op t23_wd t23_tl t23_lc t23_fo t23_sf t23_lf t23_nf) (s2 := gsM (fun k => a (200 + k)) t_th198 t23_mtr t23_mdp t23_mzi t23_mco t23_msh t23_mlt t23_mts t23_mmf) hI.1).2.1, hI.2⟩) kM_0 rfl, fun U hU hW => ⟨rfl, by rw [hU], by rw [hU]; exact (sh_app (s1 := gsC a t23_he t23_dp t23_co t23_li t23_op t23_wd t23_tl t23_lc t23_fo t23_sf t23_lf t23_nf) (s2 := gsM (fun k => a (200 + k)) t_th198 t23_mtr t23_mdp t23_mzi t23_mco t23_msh t23_mlt t23_mts t23_mmf) hI.1).2.1, va_K.moved hW.alike hK, hstM _ _ hI.2 U hU hW⟩⟩ rfl rfl hl.1 rfl (lv_room (Nat.le_of_ble_eq_true rfl)) d_La_law_179 ⟨by show (59 + 301 * (513 - (n + 1))) + 0 ≤ 601024; omega, by show (3561 + 1806 * (513 - (n + 1))) + 0 ≤ 7293034; omega⟩) hI.2 (fun q _ h => ga_sub hACM hA0 hI.2 q h) (ga_sub hACM hA0 hI.2) (fun v t H1 locs1 ht hWt hpost _ hk1 hS => ?_) (fun x t H1 locs1 ht hWt hpost _ _ hS => (hpost.2 x rfl).elim)
              rcases hpost.1 _ rfl with ⟨z206, hv, c207, c207_0, c207_1, c207_2, hI1⟩
              cases hv
              have hI : sI (dC, dI) vcl cI cJ (gsB a t23_he t23_dp t23_co t23_li t23_op t23_wd t23_tl t23_lc t23_fo t_th198 t23_mtr t23_mdp t23_mzi t23_mco t23_msh t23_mlt t23_mts t23_sf t23_lf t23_nf t23_mmf) A s.heap H1 locs1 := ⟨sh_callM (s1 := gsC a t23_he t23_dp t23_co t23_li t23_op t23_wd t23_tl t23_lc t23_fo t23_sf t23_lf t23_nf) (s2 := gsM (fun k => a (200 + k)) t_th198 t23_mtr t23_mdp t23_mzi t23_mco t23_msh t23_mlt t23_mts t23_mmf) (s2' := gsM (fun k => a (200 + k)) t_th198 t23_mtr t23_mdp t23_mzi t23_mco t23_msh t23_mlt t23_mts t23_mmf) hI.1 adM_map adM_map hk1 (by rw [← ht]; exact hI1), hS⟩
              have ho208 : okB t23_he t23_dp t23_co t23_li t23_op t23_wd t23_tl t23_lc t23_fo t_th198 t23_mtr t23_mdp t23_mzi t23_mco t23_msh t23_mlt t23_mts t23_sf t23_lf t23_nf t23_mmf := ⟨ho203.1, ho203.2.1, ho203.2.2.1, ho203.2.2.2.1, ho203.2.2.2.2.1, ho203.2.2.2.2.2.1, ho203.2.2.2.2.2.2.1, ho203.2.2.2.2.2.2.2.1, ho203.2.2.2.2.2.2.2.2.1, c207.1, c207.2.1, c207.2.2.1, c207.2.2.2.1, c207.2.2.2.2.1, c207.2.2.2.2.2.1, c207.2.2.2.2.2.2.1, c207.2.2.2.2.2.2.2.1, ho203.2.2.2.2.2.2.2.2.2.2.2.2.2.2.2.2.2.1, ho203.2.2.2.2.2.2.2.2.2.2.2.2.2.2.2.2.2.2.1, ho203.2.2.2.2.2.2.2.2.2.2.2.2.2.2.2.2.2.2.2.1, c207.2.2.2.2.2.2.2.2⟩
              clear hpost hI1 hS ht hWt hk1
              revert hI; generalize H1 = H; generalize locs1 = locs; intro hI
              refine W.widen (k := (59 + 301 * (513 - (n + 1)))) (n := (3561 + 1806 * (513 - (n + 1)))) (by omega) (by omega) ?_
              refine lv_iload hx hb d_La_law_182 (lv_at hl 0 rfl) ?_
              refine sn_icmp_eq (tgt := 189) hx hb d_La_law_184 (by decide) (fun b209 => ?_) (fun b209 => ?_)
              · refine lv_goto (tgt := 464) hx hb d_La_law_189 (by decide) ?_
                refine W.widen (k := (359 + 301 * (513 - (n + 1)))) (n := (5361 + 1806 * (513 - (n + 1)))) (by omega) (by omega) ?_
                exact j464 _ _ _ t23_he t23_dp t23_co t23_li t23_op t23_wd t23_tl t23_lc t23_fo t_th198 t23_mtr t23_mdp t23_mzi t23_mco t23_msh t23_mlt t23_mts t23_sf t23_lf t23_nf t23_mmf hI ho208 (by omega) (by omega) (lv_sub hl [1, 2, 3, 4, 5] rfl)
              · exfalso; omega
            · cases hv
              have hI : sI (dC, dI) vcl cI cJ (gsB a t23_he t23_dp t23_co t23_li t23_op t23_wd t23_tl t23_lc t23_fo t_th200 t23_mtr t23_mdp t23_mzi t23_mco t23_msh t23_mlt t23_mts t23_sf t23_lf t23_nf f_mf201) A s.heap H1 locs1 := ⟨sh_callM (s1 := gsC a t23_he t23_dp t23_co t23_li t23_op t23_wd t23_tl t23_lc t23_fo t23_sf t23_lf t23_nf) (s2 := gsM (fun k => a (200 + k)) t23_mth t23_mtr t23_mdp t23_mzi t23_mco t23_msh t23_mlt t23_mts t23_mmf) (s2' := gsM (fun k => a (200 + k)) t_th200 t23_mtr t23_mdp t23_mzi t23_mco t23_msh t23_mlt t23_mts f_mf201) hI.1 adM_map adM_map hk1 (by rw [← ht]; exact hI1), hS⟩
              have ho210 : okB t23_he t23_dp t23_co t23_li t23_op t23_wd t23_tl t23_lc t23_fo t_th200 t23_mtr t23_mdp t23_mzi t23_mco t23_msh t23_mlt t23_mts t23_sf t23_lf t23_nf f_mf201 := ⟨ho178.1, ho178.2.1, ho178.2.2.1, ho178.2.2.2.1, ho178.2.2.2.2.1, ho178.2.2.2.2.2.1, ho178.2.2.2.2.2.2.1, ho178.2.2.2.2.2.2.2.1, ho178.2.2.2.2.2.2.2.2.1, c202.1, c202.2.1, c202.2.2.1, c202.2.2.2.1, c202.2.2.2.2.1, c202.2.2.2.2.2.1, c202.2.2.2.2.2.2.1, c202.2.2.2.2.2.2.2.1, ho178.2.2.2.2.2.2.2.2.2.2.2.2.2.2.2.2.2.1, ho178.2.2.2.2.2.2.2.2.2.2.2.2.2.2.2.2.2.2.1, ho178.2.2.2.2.2.2.2.2.2.2.2.2.2.2.2.2.2.2.2.1, c202.2.2.2.2.2.2.2.2⟩
              obtain ⟨-, -, -, -, -, -, -, -, -, ⟨o211, o212⟩, -, -, -, -, -, -, -, -, -, -, -⟩ := id ho210
              clear hpost hI1 hS ht hWt hk1
              revert hI; generalize H1 = H; generalize locs1 = locs; intro hI
              refine W.widen (k := (59 + 301 * (513 - (n + 1)))) (n := (3561 + 1806 * (513 - (n + 1)))) (by omega) (by omega) ?_
              refine lv_aload_n hx hb d_La_law_178 rfl (lv_at hl 3 rfl) ?_
              refine tz_call (A1 := ga (adM (fun k => a (200 + k))) H.size) (tz_runV (C := "StoryMachineModel") (As := []) (rest := []) ⟨hx, hb, hml, hown, hts⟩ (c_Mo_thrown l hfl dC dI cI cJ (fun k => a (200 + k)) H.size t_th200 t23_mtr t23_mdp t23_mzi t23_mco t23_msh t23_mlt t23_mts f_mf201  ⟨ho210.2.2.2.2.2.2.2.2.2.1, ho210.2.2.2.2.2.2.2.2.2.2.1, ho210.2.2.2.2.2.2.2.2.2.2.2.1, ho210.2.2.2.2.2.2.2.2.2.2.2.2.1, ho210.2.2.2.2.2.2.2.2.2.2.2.2.2.1, ho210.2.2.2.2.2.2.2.2.2.2.2.2.2.2.1, ho210.2.2.2.2.2.2.2.2.2.2.2.2.2.2.2.1, ho210.2.2.2.2.2.2.2.2.2.2.2.2.2.2.2.2.1, ho210.2.2.2.2.2.2.2.2.2.2.2.2.2.2.2.2.2.2.2.2⟩) (tx_cb (n := 0) hts rfl rfl ⟨Nat.le_of_ble_eq_true rfl, Nat.le_of_ble_eq_true rfl⟩ (tx_code.of (hts _ mw_1220)) (hts _ mw_12) (by decide +kernel) (hts _ mw_1217)) (hts _ mw_1218) (hts _ mw_1219) ⟨tz_blind, sv_recv (q0 := 0) hts in_Mo hK (show sI (dC, dI) vcl cI cJ _ A s.heap H locs from ⟨(sh_app (s1 := gsC a t23_he t23_dp t23_co t23_li t23_op t23_wd t23_tl t23_lc t23_fo t23_sf t23_lf t23_nf) (s2 := gsM (fun k => a (200 + k)) t_th200 t23_mtr t23_mdp t23_mzi t23_mco t23_msh t23_mlt t23_mts f_mf201) hI.1).2.1, hI.2⟩) kM_0 rfl, fun U hU hW => ⟨rfl, by rw [hU], by rw [hU]; exact (sh_app (s1 := gsC a t23_he t23_dp t23_co t23_li t23_op t23_wd t23_tl t23_lc t23_fo t23_sf t23_lf t23_nf) (s2 := gsM (fun k => a (200 + k)) t_th200 t23_mtr t23_mdp t23_mzi t23_mco t23_msh t23_mlt t23_mts f_mf201) hI.1).2.1, va_K.moved hW.alike hK, hstM _ _ hI.2 U hU hW⟩⟩ rfl rfl hl.1 rfl (lv_room (Nat.le_of_ble_eq_true rfl)) d_La_law_179 ⟨by show (59 + 301 * (513 - (n + 1))) + 0 ≤ 601024; omega, by show (3561 + 1806 * (513 - (n + 1))) + 0 ≤ 7293034; omega⟩) hI.2 (fun q _ h => ga_sub hACM hA0 hI.2 q h) (ga_sub hACM hA0 hI.2) (fun v t H1 locs1 ht hWt hpost _ hk1 hS => ?_) (fun x t H1 locs1 ht hWt hpost _ _ hS => (hpost.2 x rfl).elim)
              rcases hpost.1 _ rfl with ⟨z213, hv, c214, c214_0, c214_1, c214_2, hI1⟩
              cases hv
              have hI : sI (dC, dI) vcl cI cJ (gsB a t23_he t23_dp t23_co t23_li t23_op t23_wd t23_tl t23_lc t23_fo t_th200 t23_mtr t23_mdp t23_mzi t23_mco t23_msh t23_mlt t23_mts t23_sf t23_lf t23_nf f_mf201) A s.heap H1 locs1 := ⟨sh_callM (s1 := gsC a t23_he t23_dp t23_co t23_li t23_op t23_wd t23_tl t23_lc t23_fo t23_sf t23_lf t23_nf) (s2 := gsM (fun k => a (200 + k)) t_th200 t23_mtr t23_mdp t23_mzi t23_mco t23_msh t23_mlt t23_mts f_mf201) (s2' := gsM (fun k => a (200 + k)) t_th200 t23_mtr t23_mdp t23_mzi t23_mco t23_msh t23_mlt t23_mts f_mf201) hI.1 adM_map adM_map hk1 (by rw [← ht]; exact hI1), hS⟩
              have ho215 : okB t23_he t23_dp t23_co t23_li t23_op t23_wd t23_tl t23_lc t23_fo t_th200 t23_mtr t23_mdp t23_mzi t23_mco t23_msh t23_mlt t23_mts t23_sf t23_lf t23_nf f_mf201 := ⟨ho210.1, ho210.2.1, ho210.2.2.1, ho210.2.2.2.1, ho210.2.2.2.2.1, ho210.2.2.2.2.2.1, ho210.2.2.2.2.2.2.1, ho210.2.2.2.2.2.2.2.1, ho210.2.2.2.2.2.2.2.2.1, c214.1, c214.2.1, c214.2.2.1, c214.2.2.2.1, c214.2.2.2.2.1, c214.2.2.2.2.2.1, c214.2.2.2.2.2.2.1, c214.2.2.2.2.2.2.2.1, ho210.2.2.2.2.2.2.2.2.2.2.2.2.2.2.2.2.2.1, ho210.2.2.2.2.2.2.2.2.2.2.2.2.2.2.2.2.2.2.1, ho210.2.2.2.2.2.2.2.2.2.2.2.2.2.2.2.2.2.2.2.1, c214.2.2.2.2.2.2.2.2⟩
              clear hpost hI1 hS ht hWt hk1
              revert hI; generalize H1 = H; generalize locs1 = locs; intro hI
              refine W.widen (k := (59 + 301 * (513 - (n + 1)))) (n := (3561 + 1806 * (513 - (n + 1)))) (by omega) (by omega) ?_
              refine lv_iload hx hb d_La_law_182 (lv_at hl 0 rfl) ?_
              refine sn_icmp_eq (tgt := 189) hx hb d_La_law_184 (by decide) (fun b216 => ?_) (fun b216 => ?_)
              · refine lv_goto (tgt := 464) hx hb d_La_law_189 (by decide) ?_
                refine W.widen (k := (359 + 301 * (513 - (n + 1)))) (n := (5361 + 1806 * (513 - (n + 1)))) (by omega) (by omega) ?_
                exact j464 _ _ _ t23_he t23_dp t23_co t23_li t23_op t23_wd t23_tl t23_lc t23_fo t_th200 t23_mtr t23_mdp t23_mzi t23_mco t23_msh t23_mlt t23_mts t23_sf t23_lf t23_nf f_mf201 hI ho215 (by omega) (by omega) (lv_sub hl [1, 2, 3, 4, 5] rfl)
              · exfalso; omega
        by_cases b217 : z113.toInt = 1
        · refine sn_tin (v := 1) (off := 153) (tgt := 192) hx hb d_La_law_39 b217 (by decide) (by decide) (by decide) (by decide) ?_
          refine lv_aload_n hx hb d_La_law_192 rfl (lv_at hl 1 rfl) ?_
          refine lv_aload_n hx hb d_La_law_193 rfl (lv_at hl 0 rfl) ?_
          refine lv_iload hx hb d_La_law_194 (lv_at hl 4 rfl) ?_
          refine sn_iconst hx hb d_La_law_196 (by decide) (fun z218 hz218 => ?_)
          refine sn_iadd hx hb d_La_law_197 (by omega) (by omega) (fun z219 hz219 => ?_)
          refine va_sld hx hb hX hbl hbA hI.2 (sv_in (by omega) (by omega)) d_La_law_198 ?_
          refine sn_tope (fun z220 hz220 => ?_)
          have hz220x : z220.toInt = (xs (v23_4.toInt + 1).toNat).toInt := by rw [hz220, show z219.toNatClampNeg = (v23_4.toInt + 1).toNat from by rw [← show z219.toInt = v23_4.toInt + 1 by omega]; rfl]
          have hz220r := sn_rng z220
          clear hz220
          refine lv_aload_n hx hb d_La_law_199 rfl (lv_at hl 3 rfl) ?_
          refine tz_call (A1 := ga (adC a) H.size) (tz_runS (As := [.ref (a 0), .int z220, .ref (a 35)]) (rest := []) ⟨hx, hb, hml, hown, hts⟩ (c_La_peek l hfl dC dI cI cJ a H.size t23_he t23_dp t23_co t23_li t23_op t23_wd t23_tl t23_lc t23_fo t23_sf t23_lf t23_nf z220 ⟨hok.1, hok.2.1, hok.2.2.1, hok.2.2.2.1, hok.2.2.2.2.1, hok.2.2.2.2.2.1, hok.2.2.2.2.2.2.1, hok.2.2.2.2.2.2.2.1, hok.2.2.2.2.2.2.2.2.1, hok.2.2.2.2.2.2.2.2.2.2.2.2.2.2.2.2.2.1, hok.2.2.2.2.2.2.2.2.2.2.2.2.2.2.2.2.2.2.1, hok.2.2.2.2.2.2.2.2.2.2.2.2.2.2.2.2.2.2.2.1⟩) (tx_cb (n := 3) hts rfl rfl ⟨Nat.le_of_ble_eq_true rfl, Nat.le_of_ble_eq_true rfl⟩ (tx_code.ofW (hts _ mw_424)) (hts _ mw_0) (by decide +kernel) (hts _ mw_422)) (hts _ mw_423) ⟨tz_blind, fun U hU hW => ⟨rfl, by rw [hU], by rw [hU]; exact (sh_app (s1 := gsC a t23_he t23_dp t23_co t23_li t23_op t23_wd t23_tl t23_lc t23_fo t23_sf t23_lf t23_nf) (s2 := gsM (fun k => a (200 + k)) t23_mth t23_mtr t23_mdp t23_mzi t23_mco t23_msh t23_mlt t23_mts t23_mmf) hI.1).1, va_K.moved hW.alike hK, hstC _ _ hI.2 U hU hW⟩⟩ rfl rfl hl.1 rfl (lv_room (Nat.le_of_ble_eq_true rfl)) d_La_law_200 ⟨by show (58 + 301 * (513 - (n + 1))) + 1 ≤ 601024; omega, by show (3555 + 1806 * (513 - (n + 1))) + 6 ≤ 7293034; omega⟩) hI.2 (fun q _ h => ga_sub hACC hA0 hI.2 q h) (ga_sub hACC hA0 hI.2) (fun v t H1 locs1 ht hWt hpost _ hk1 hS => ?_) (fun x t H1 locs1 ht hWt hpost _ _ hS => (hpost.2 x rfl).elim)
          rcases hpost.1 _ rfl with ⟨z221, hv, c222, c222_0, c222_1, hI1⟩
          cases hv
          have hI : sI (dC, dI) vcl cI cJ (gsB a t23_he t23_dp t23_co t23_li t23_op t23_wd t23_tl t23_lc t23_fo t23_mth t23_mtr t23_mdp t23_mzi t23_mco t23_msh t23_mlt t23_mts t23_sf t23_lf t23_nf t23_mmf) A s.heap H1 locs1 := ⟨sh_callC (s1 := gsC a t23_he t23_dp t23_co t23_li t23_op t23_wd t23_tl t23_lc t23_fo t23_sf t23_lf t23_nf) (s2 := gsM (fun k => a (200 + k)) t23_mth t23_mtr t23_mdp t23_mzi t23_mco t23_msh t23_mlt t23_mts t23_mmf) (s1' := gsC a t23_he t23_dp t23_co t23_li t23_op t23_wd t23_tl t23_lc t23_fo t23_sf t23_lf t23_nf) hI.1 adC_map adC_map hk1 (by rw [← ht]; exact hI1), hS⟩
          have ho223 : okB t23_he t23_dp t23_co t23_li t23_op t23_wd t23_tl t23_lc t23_fo t23_mth t23_mtr t23_mdp t23_mzi t23_mco t23_msh t23_mlt t23_mts t23_sf t23_lf t23_nf t23_mmf := ⟨c222.1, c222.2.1, c222.2.2.1, c222.2.2.2.1, c222.2.2.2.2.1, c222.2.2.2.2.2.1, c222.2.2.2.2.2.2.1, c222.2.2.2.2.2.2.2.1, c222.2.2.2.2.2.2.2.2.1, hok.2.2.2.2.2.2.2.2.2.1, hok.2.2.2.2.2.2.2.2.2.2.1, hok.2.2.2.2.2.2.2.2.2.2.2.1, hok.2.2.2.2.2.2.2.2.2.2.2.2.1, hok.2.2.2.2.2.2.2.2.2.2.2.2.2.1, hok.2.2.2.2.2.2.2.2.2.2.2.2.2.2.1, hok.2.2.2.2.2.2.2.2.2.2.2.2.2.2.2.1, hok.2.2.2.2.2.2.2.2.2.2.2.2.2.2.2.2.1, c222.2.2.2.2.2.2.2.2.2.1, c222.2.2.2.2.2.2.2.2.2.2.1, c222.2.2.2.2.2.2.2.2.2.2.2, hok.2.2.2.2.2.2.2.2.2.2.2.2.2.2.2.2.2.2.2.2⟩
          clear hpost hI1 hS ht hWt hk1
          revert hI; generalize H1 = H; generalize locs1 = locs; intro hI
          refine W.widen (k := (59 + 301 * (513 - (n + 1)))) (n := (3561 + 1806 * (513 - (n + 1)))) (by omega) (by omega) ?_
          refine lv_istore (lv' := [(5, .int z221), (0, .ref b), (1, .ref (a 0)), (2, .ref (a 200)), (3, .ref (a 35)), (4, .int v23_4)]) hx hb d_La_law_203 hl (by decide) rfl (fun ls hl => ?_)
          refine lv_aload_n hx hb d_La_law_205 rfl (lv_at hl 3 rfl) ?_
          refine lv_aload_n hx hb d_La_law_206 rfl (lv_at hl 1 rfl) ?_
          refine lv_iload hx hb d_La_law_207 (lv_at hl 5 rfl) ?_
          refine sn_iconst hx hb d_La_law_209 (by decide) (fun z224 hz224 => ?_)
          refine sn_iadd hx hb d_La_law_210 (by omega) (by omega) (fun z225 hz225 => ?_)
          refine va_sld hx hb hX hbl hbA hI.2 (sv_in (by omega) (by omega)) d_La_law_211 ?_
          refine sn_tope (fun z226 hz226 => ?_)
          have hz226x : z226.toInt = (xs (v23_4.toInt + 1).toNat).toInt := by rw [hz226, show z225.toNatClampNeg = (v23_4.toInt + 1).toNat from by rw [← show z225.toInt = v23_4.toInt + 1 by omega]; rfl]
          have hz226r := sn_rng z226
          clear hz226
          refine tz_call (A1 := ga (adM (fun k => a (200 + k))) H.size) (tz_runV (C := "StoryMachineModel") (As := [.int z226]) (rest := []) ⟨hx, hb, hml, hown, hts⟩ (c_Mo_peek l hfl dC dI cI cJ (fun k => a (200 + k)) H.size t23_mth t23_mtr t23_mdp t23_mzi t23_mco t23_msh t23_mlt t23_mts t23_mmf z226 ⟨ho223.2.2.2.2.2.2.2.2.2.1, ho223.2.2.2.2.2.2.2.2.2.2.1, ho223.2.2.2.2.2.2.2.2.2.2.2.1, ho223.2.2.2.2.2.2.2.2.2.2.2.2.1, ho223.2.2.2.2.2.2.2.2.2.2.2.2.2.1, ho223.2.2.2.2.2.2.2.2.2.2.2.2.2.2.1, ho223.2.2.2.2.2.2.2.2.2.2.2.2.2.2.2.1, ho223.2.2.2.2.2.2.2.2.2.2.2.2.2.2.2.2.1, ho223.2.2.2.2.2.2.2.2.2.2.2.2.2.2.2.2.2.2.2.2⟩) (tx_cb (n := 1) hts rfl rfl ⟨Nat.le_of_ble_eq_true rfl, Nat.le_of_ble_eq_true rfl⟩ (tx_code.of (hts _ mw_1508)) (hts _ mw_12) (by decide +kernel) (hts _ mw_1505)) (hts _ mw_1506) (hts _ mw_1507) ⟨tz_blind, sv_recv (q0 := 0) hts in_Mo hK (show sI (dC, dI) vcl cI cJ _ A s.heap H locs from ⟨(sh_app (s1 := gsC a t23_he t23_dp t23_co t23_li t23_op t23_wd t23_tl t23_lc t23_fo t23_sf t23_lf t23_nf) (s2 := gsM (fun k => a (200 + k)) t23_mth t23_mtr t23_mdp t23_mzi t23_mco t23_msh t23_mlt t23_mts t23_mmf) hI.1).2.1, hI.2⟩) kM_0 rfl, fun U hU hW => ⟨rfl, by rw [hU], by rw [hU]; exact (sh_app (s1 := gsC a t23_he t23_dp t23_co t23_li t23_op t23_wd t23_tl t23_lc t23_fo t23_sf t23_lf t23_nf) (s2 := gsM (fun k => a (200 + k)) t23_mth t23_mtr t23_mdp t23_mzi t23_mco t23_msh t23_mlt t23_mts t23_mmf) hI.1).2.1, va_K.moved hW.alike hK, hstM _ _ hI.2 U hU hW⟩⟩ rfl rfl hl.1 rfl (lv_room (Nat.le_of_ble_eq_true rfl)) d_La_law_212 ⟨by show (59 + 301 * (513 - (n + 1))) + 0 ≤ 601024; omega, by show (3561 + 1806 * (513 - (n + 1))) + 0 ≤ 7293034; omega⟩) hI.2 (fun q _ h => ga_sub hACM hA0 hI.2 q h) (ga_sub hACM hA0 hI.2) (fun v t H1 locs1 ht hWt hpost _ hk1 hS => ?_) (fun x t H1 locs1 ht hWt hpost _ _ hS => (hpost.2 x rfl).elim)
          rcases hpost.1 _ rfl with ⟨z227, t_th228, hv, c229, c229_0, c229_1, c229_2, hI1⟩
          cases hv
          have hI : sI (dC, dI) vcl cI cJ (gsB a t23_he t23_dp t23_co t23_li t23_op t23_wd t23_tl t23_lc t23_fo t_th228 t23_mtr t23_mdp t23_mzi t23_mco t23_msh t23_mlt t23_mts t23_sf t23_lf t23_nf t23_mmf) A s.heap H1 locs1 := ⟨sh_callM (s1 := gsC a t23_he t23_dp t23_co t23_li t23_op t23_wd t23_tl t23_lc t23_fo t23_sf t23_lf t23_nf) (s2 := gsM (fun k => a (200 + k)) t23_mth t23_mtr t23_mdp t23_mzi t23_mco t23_msh t23_mlt t23_mts t23_mmf) (s2' := gsM (fun k => a (200 + k)) t_th228 t23_mtr t23_mdp t23_mzi t23_mco t23_msh t23_mlt t23_mts t23_mmf) hI.1 adM_map adM_map hk1 (by rw [← ht]; exact hI1), hS⟩
          have ho230 : okB t23_he t23_dp t23_co t23_li t23_op t23_wd t23_tl t23_lc t23_fo t_th228 t23_mtr t23_mdp t23_mzi t23_mco t23_msh t23_mlt t23_mts t23_sf t23_lf t23_nf t23_mmf := ⟨ho223.1, ho223.2.1, ho223.2.2.1, ho223.2.2.2.1, ho223.2.2.2.2.1, ho223.2.2.2.2.2.1, ho223.2.2.2.2.2.2.1, ho223.2.2.2.2.2.2.2.1, ho223.2.2.2.2.2.2.2.2.1, c229.1, c229.2.1, c229.2.2.1, c229.2.2.2.1, c229.2.2.2.2.1, c229.2.2.2.2.2.1, c229.2.2.2.2.2.2.1, c229.2.2.2.2.2.2.2.1, ho223.2.2.2.2.2.2.2.2.2.2.2.2.2.2.2.2.2.1, ho223.2.2.2.2.2.2.2.2.2.2.2.2.2.2.2.2.2.2.1, ho223.2.2.2.2.2.2.2.2.2.2.2.2.2.2.2.2.2.2.2.1, c229.2.2.2.2.2.2.2.2⟩
          obtain ⟨-, -, -, -, -, -, -, -, -, ⟨o231, o232⟩, -, -, -, -, -, -, -, -, -, -, -⟩ := id ho230
          clear hpost hI1 hS ht hWt hk1
          revert hI; generalize H1 = H; generalize locs1 = locs; intro hI
          refine W.widen (k := (59 + 301 * (513 - (n + 1)))) (n := (3561 + 1806 * (513 - (n + 1)))) (by omega) (by omega) ?_
          refine lv_istore (lv' := [(6, .int z227), (5, .int z221), (0, .ref b), (1, .ref (a 0)), (2, .ref (a 200)), (3, .ref (a 35)), (4, .int v23_4)]) hx hb d_La_law_215 hl (by decide) rfl (fun ls hl => ?_)
          refine lv_goto (tgt := 464) hx hb d_La_law_217 (by decide) ?_
          refine W.widen (k := (359 + 301 * (513 - (n + 1)))) (n := (5361 + 1806 * (513 - (n + 1)))) (by omega) (by omega) ?_
          exact j464 _ _ _ t23_he t23_dp t23_co t23_li t23_op t23_wd t23_tl t23_lc t23_fo t_th228 t23_mtr t23_mdp t23_mzi t23_mco t23_msh t23_mlt t23_mts t23_sf t23_lf t23_nf t23_mmf hI ho230 (by omega) (by omega) (lv_sub hl [2, 3, 4, 5, 6] rfl)
        by_cases b233 : z113.toInt = 2
        · refine sn_tin (v := 2) (off := 181) (tgt := 220) hx hb d_La_law_39 b233 (by decide) (by decide) (by decide) (by decide) ?_
          refine lv_aload_n hx hb d_La_law_220 rfl (lv_at hl 1 rfl) ?_
          refine tz_call (A1 := ga (adC a) H.size) (tz_runS (As := [.ref (a 0)]) (rest := []) ⟨hx, hb, hml, hown, hts⟩ (c_La_begin l hfl dC dI cI cJ a H.size t23_he t23_dp t23_co t23_li t23_op t23_wd t23_tl t23_lc t23_fo t23_sf t23_lf t23_nf  ⟨hok.1, hok.2.1, hok.2.2.1, hok.2.2.2.1, hok.2.2.2.2.1, hok.2.2.2.2.2.1, hok.2.2.2.2.2.2.1, hok.2.2.2.2.2.2.2.1, hok.2.2.2.2.2.2.2.2.1, hok.2.2.2.2.2.2.2.2.2.2.2.2.2.2.2.2.2.1, hok.2.2.2.2.2.2.2.2.2.2.2.2.2.2.2.2.2.2.1, hok.2.2.2.2.2.2.2.2.2.2.2.2.2.2.2.2.2.2.2.1⟩) (tx_cb (n := 1) hts rfl rfl ⟨Nat.le_of_ble_eq_true rfl, Nat.le_of_ble_eq_true rfl⟩ (tx_code.ofW (hts _ mw_431)) (hts _ mw_0) (by decide +kernel) (hts _ mw_429)) (hts _ mw_430) ⟨tz_blind, fun U hU hW => ⟨rfl, by rw [hU], by rw [hU]; exact (sh_app (s1 := gsC a t23_he t23_dp t23_co t23_li t23_op t23_wd t23_tl t23_lc t23_fo t23_sf t23_lf t23_nf) (s2 := gsM (fun k => a (200 + k)) t23_mth t23_mtr t23_mdp t23_mzi t23_mco t23_msh t23_mlt t23_mts t23_mmf) hI.1).1, va_K.moved hW.alike hK, hstC _ _ hI.2 U hU hW⟩⟩ rfl rfl hl.1 rfl (lv_room (Nat.le_of_ble_eq_true rfl)) d_La_law_221 ⟨by show (58 + 301 * (513 - (n + 1))) + 1 ≤ 601024; omega, by show (3555 + 1806 * (513 - (n + 1))) + 6 ≤ 7293034; omega⟩) hI.2 (fun q _ h => ga_sub hACC hA0 hI.2 q h) (ga_sub hACC hA0 hI.2) (fun v t H1 locs1 ht hWt hpost _ hk1 hS => ?_) (fun x t H1 locs1 ht hWt hpost _ _ hS => (hpost.2 x rfl).elim)
          rcases hpost.1 _ rfl with ⟨z234, t_he235, t_dp236, t_tl237, f_nf238, hv, c239, c239_0, c239_1, hI1⟩
          cases hv
          have hI : sI (dC, dI) vcl cI cJ (gsB a t_he235 t_dp236 t23_co t23_li t23_op t23_wd t_tl237 t23_lc t23_fo t23_mth t23_mtr t23_mdp t23_mzi t23_mco t23_msh t23_mlt t23_mts t23_sf t23_lf f_nf238 t23_mmf) A s.heap H1 locs1 := ⟨sh_callC (s1 := gsC a t23_he t23_dp t23_co t23_li t23_op t23_wd t23_tl t23_lc t23_fo t23_sf t23_lf t23_nf) (s2 := gsM (fun k => a (200 + k)) t23_mth t23_mtr t23_mdp t23_mzi t23_mco t23_msh t23_mlt t23_mts t23_mmf) (s1' := gsC a t_he235 t_dp236 t23_co t23_li t23_op t23_wd t_tl237 t23_lc t23_fo t23_sf t23_lf f_nf238) hI.1 adC_map adC_map hk1 (by rw [← ht]; exact hI1), hS⟩
          have ho240 : okB t_he235 t_dp236 t23_co t23_li t23_op t23_wd t_tl237 t23_lc t23_fo t23_mth t23_mtr t23_mdp t23_mzi t23_mco t23_msh t23_mlt t23_mts t23_sf t23_lf f_nf238 t23_mmf := ⟨c239.1, c239.2.1, c239.2.2.1, c239.2.2.2.1, c239.2.2.2.2.1, c239.2.2.2.2.2.1, c239.2.2.2.2.2.2.1, c239.2.2.2.2.2.2.2.1, c239.2.2.2.2.2.2.2.2.1, hok.2.2.2.2.2.2.2.2.2.1, hok.2.2.2.2.2.2.2.2.2.2.1, hok.2.2.2.2.2.2.2.2.2.2.2.1, hok.2.2.2.2.2.2.2.2.2.2.2.2.1, hok.2.2.2.2.2.2.2.2.2.2.2.2.2.1, hok.2.2.2.2.2.2.2.2.2.2.2.2.2.2.1, hok.2.2.2.2.2.2.2.2.2.2.2.2.2.2.2.1, hok.2.2.2.2.2.2.2.2.2.2.2.2.2.2.2.2.1, c239.2.2.2.2.2.2.2.2.2.1, c239.2.2.2.2.2.2.2.2.2.2.1, c239.2.2.2.2.2.2.2.2.2.2.2, hok.2.2.2.2.2.2.2.2.2.2.2.2.2.2.2.2.2.2.2.2⟩
          obtain ⟨⟨o241, o242⟩, ⟨o243, o244⟩, -, -, -, -, ⟨o245, o246⟩, -, -, -, -, -, -, -, -, -, -, -, -, -, -⟩ := id ho240
          clear hpost hI1 hS ht hWt hk1
          revert hI; generalize H1 = H; generalize locs1 = locs; intro hI
          refine W.widen (k := (59 + 301 * (513 - (n + 1)))) (n := (3561 + 1806 * (513 - (n + 1)))) (by omega) (by omega) ?_
          refine lv_istore (lv' := [(5, .int z234), (0, .ref b), (1, .ref (a 0)), (2, .ref (a 200)), (3, .ref (a 35)), (4, .int v23_4)]) hx hb d_La_law_224 hl (by decide) rfl (fun ls hl => ?_)
          refine lv_aload_n hx hb d_La_law_226 rfl (lv_at hl 3 rfl) ?_
          refine tz_call (A1 := ga (adM (fun k => a (200 + k))) H.size) (tz_runV (C := "StoryMachineModel") (As := []) (rest := []) ⟨hx, hb, hml, hown, hts⟩ (c_Mo_begin l hfl dC dI cI cJ (fun k => a (200 + k)) H.size t23_mth t23_mtr t23_mdp t23_mzi t23_mco t23_msh t23_mlt t23_mts t23_mmf  ⟨ho240.2.2.2.2.2.2.2.2.2.1, ho240.2.2.2.2.2.2.2.2.2.2.1, ho240.2.2.2.2.2.2.2.2.2.2.2.1, ho240.2.2.2.2.2.2.2.2.2.2.2.2.1, ho240.2.2.2.2.2.2.2.2.2.2.2.2.2.1, ho240.2.2.2.2.2.2.2.2.2.2.2.2.2.2.1, ho240.2.2.2.2.2.2.2.2.2.2.2.2.2.2.2.1, ho240.2.2.2.2.2.2.2.2.2.2.2.2.2.2.2.2.1, ho240.2.2.2.2.2.2.2.2.2.2.2.2.2.2.2.2.2.2.2.2⟩) (tx_cb (n := 0) hts rfl rfl ⟨Nat.le_of_ble_eq_true rfl, Nat.le_of_ble_eq_true rfl⟩ (tx_code.of (hts _ mw_1512)) (hts _ mw_12) (by decide +kernel) (hts _ mw_1509)) (hts _ mw_1510) (hts _ mw_1511) ⟨tz_blind, sv_recv (q0 := 0) hts in_Mo hK (show sI (dC, dI) vcl cI cJ _ A s.heap H locs from ⟨(sh_app (s1 := gsC a t_he235 t_dp236 t23_co t23_li t23_op t23_wd t_tl237 t23_lc t23_fo t23_sf t23_lf f_nf238) (s2 := gsM (fun k => a (200 + k)) t23_mth t23_mtr t23_mdp t23_mzi t23_mco t23_msh t23_mlt t23_mts t23_mmf) hI.1).2.1, hI.2⟩) kM_0 rfl, fun U hU hW => ⟨rfl, by rw [hU], by rw [hU]; exact (sh_app (s1 := gsC a t_he235 t_dp236 t23_co t23_li t23_op t23_wd t_tl237 t23_lc t23_fo t23_sf t23_lf f_nf238) (s2 := gsM (fun k => a (200 + k)) t23_mth t23_mtr t23_mdp t23_mzi t23_mco t23_msh t23_mlt t23_mts t23_mmf) hI.1).2.1, va_K.moved hW.alike hK, hstM _ _ hI.2 U hU hW⟩⟩ rfl rfl hl.1 rfl (lv_room (Nat.le_of_ble_eq_true rfl)) d_La_law_227 ⟨by show (59 + 301 * (513 - (n + 1))) + 0 ≤ 601024; omega, by show (3561 + 1806 * (513 - (n + 1))) + 0 ≤ 7293034; omega⟩) hI.2 (fun q _ h => ga_sub hACM hA0 hI.2 q h) (ga_sub hACM hA0 hI.2) (fun v t H1 locs1 ht hWt hpost _ hk1 hS => ?_) (fun x t H1 locs1 ht hWt hpost _ _ hS => (hpost.2 x rfl).elim)
          rcases hpost.1 _ rfl with ⟨t_th247, t_dp248, t_zi249, t_sh250, t_ts251, hv, c252, c252_0, c252_1, hI1⟩
          cases hv
          have hI : sI (dC, dI) vcl cI cJ (gsB a t_he235 t_dp236 t23_co t23_li t23_op t23_wd t_tl237 t23_lc t23_fo t_th247 t23_mtr t_dp248 t_zi249 t23_mco t_sh250 t23_mlt t_ts251 t23_sf t23_lf f_nf238 t23_mmf) A s.heap H1 locs1 := ⟨sh_callM (s1 := gsC a t_he235 t_dp236 t23_co t23_li t23_op t23_wd t_tl237 t23_lc t23_fo t23_sf t23_lf f_nf238) (s2 := gsM (fun k => a (200 + k)) t23_mth t23_mtr t23_mdp t23_mzi t23_mco t23_msh t23_mlt t23_mts t23_mmf) (s2' := gsM (fun k => a (200 + k)) t_th247 t23_mtr t_dp248 t_zi249 t23_mco t_sh250 t23_mlt t_ts251 t23_mmf) hI.1 adM_map adM_map hk1 (by rw [← ht]; exact hI1), hS⟩
          have ho253 : okB t_he235 t_dp236 t23_co t23_li t23_op t23_wd t_tl237 t23_lc t23_fo t_th247 t23_mtr t_dp248 t_zi249 t23_mco t_sh250 t23_mlt t_ts251 t23_sf t23_lf f_nf238 t23_mmf := ⟨ho240.1, ho240.2.1, ho240.2.2.1, ho240.2.2.2.1, ho240.2.2.2.2.1, ho240.2.2.2.2.2.1, ho240.2.2.2.2.2.2.1, ho240.2.2.2.2.2.2.2.1, ho240.2.2.2.2.2.2.2.2.1, c252.1, c252.2.1, c252.2.2.1, c252.2.2.2.1, c252.2.2.2.2.1, c252.2.2.2.2.2.1, c252.2.2.2.2.2.2.1, c252.2.2.2.2.2.2.2.1, ho240.2.2.2.2.2.2.2.2.2.2.2.2.2.2.2.2.2.1, ho240.2.2.2.2.2.2.2.2.2.2.2.2.2.2.2.2.2.2.1, ho240.2.2.2.2.2.2.2.2.2.2.2.2.2.2.2.2.2.2.2.1, c252.2.2.2.2.2.2.2.2⟩
          obtain ⟨-, -, -, -, -, -, -, -, -, ⟨o254, o255⟩, -, ⟨o256, o257⟩, ⟨o258, o259⟩, -, ⟨o260, o261⟩, -, ⟨o262, o263⟩, -, -, -, -⟩ := id ho253
          clear hpost hI1 hS ht hWt hk1
          revert hI; generalize H1 = H; generalize locs1 = locs; intro hI
          refine W.widen (k := (59 + 301 * (513 - (n + 1)))) (n := (3561 + 1806 * (513 - (n + 1)))) (by omega) (by omega) ?_
          refine lv_goto (tgt := 464) hx hb d_La_law_230 (by decide) ?_
          refine W.widen (k := (359 + 301 * (513 - (n + 1)))) (n := (5361 + 1806 * (513 - (n + 1)))) (by omega) (by omega) ?_
          exact j464 _ _ _ t_he235 t_dp236 t23_co t23_li t23_op t23_wd t_tl237 t23_lc t23_fo t_th247 t23_mtr t_dp248 t_zi249 t23_mco t_sh250 t23_mlt t_ts251 t23_sf t23_lf f_nf238 t23_mmf hI ho253 (by omega) (by omega) (lv_sub hl [1, 2, 3, 4, 5] rfl)
        by_cases b264 : z113.toInt = 3
        · refine sn_tin (v := 3) (off := 194) (tgt := 233) hx hb d_La_law_39 b264 (by decide) (by decide) (by decide) (by decide) ?_
          refine lv_aload_n hx hb d_La_law_233 rfl (lv_at hl 1 rfl) ?_
          refine lv_aload_n hx hb d_La_law_234 rfl (lv_at hl 0 rfl) ?_
          refine lv_iload hx hb d_La_law_235 (lv_at hl 4 rfl) ?_
          refine sn_iconst hx hb d_La_law_237 (by decide) (fun z265 hz265 => ?_)
          refine sn_iadd hx hb d_La_law_238 (by omega) (by omega) (fun z266 hz266 => ?_)
          refine va_sld hx hb hX hbl hbA hI.2 (sv_in (by omega) (by omega)) d_La_law_239 ?_
          refine sn_tope (fun z267 hz267 => ?_)
          have hz267x : z267.toInt = (xs (v23_4.toInt + 1).toNat).toInt := by rw [hz267, show z266.toNatClampNeg = (v23_4.toInt + 1).toNat from by rw [← show z266.toInt = v23_4.toInt + 1 by omega]; rfl]
          have hz267r := sn_rng z267
          clear hz267
          refine lv_i2l hx hb d_La_law_240 rfl ?_
          refine lv_topl (fun y268 hy268 => ?_)
          refine sn_bipush hx hb d_La_law_241 (by decide) (fun z269 hz269 => ?_)
          refine lv_lshl hx hb d_La_law_243 rfl ?_
          refine lv_topl (fun y270 hy270 => ?_)
          refine lv_aload_n hx hb d_La_law_244 rfl (lv_at hl 0 rfl) ?_
          refine lv_iload hx hb d_La_law_245 (lv_at hl 4 rfl) ?_
          refine sn_iconst hx hb d_La_law_247 (by decide) (fun z271 hz271 => ?_)
          refine sn_iadd hx hb d_La_law_248 (by omega) (by omega) (fun z272 hz272 => ?_)
          refine va_sld hx hb hX hbl hbA hI.2 (sv_in (by omega) (by omega)) d_La_law_249 ?_
          refine sn_tope (fun z273 hz273 => ?_)
          have hz273x : z273.toInt = (xs (v23_4.toInt + 2).toNat).toInt := by rw [hz273, show z272.toNatClampNeg = (v23_4.toInt + 2).toNat from by rw [← show z272.toInt = v23_4.toInt + 2 by omega]; rfl]
          have hz273r := sn_rng z273
          clear hz273
          refine lv_i2l hx hb d_La_law_250 rfl ?_
          refine lv_topl (fun y274 hy274 => ?_)
          refine lv_ldc2 hx hb hown (hts _ mw_1547) d_La_law_251 ?_
          refine lv_topl (fun c4294967295_275 hc4294967295_275 => ?_)
          refine lv_land hx hb d_La_law_254 ?_
          refine lv_topl (fun y276 hy276 => ?_)
          refine lv_lor hx hb d_La_law_255 ?_
          refine lv_topl (fun y277 hy277 => ?_)
          refine lv_aload_n hx hb d_La_law_256 rfl (lv_at hl 0 rfl) ?_
          refine lv_iload hx hb d_La_law_257 (lv_at hl 4 rfl) ?_
          refine sn_iconst hx hb d_La_law_259 (by decide) (fun z278 hz278 => ?_)
          refine sn_iadd hx hb d_La_law_260 (by omega) (by omega) (fun z279 hz279 => ?_)
          refine va_sld hx hb hX hbl hbA hI.2 (sv_in (by omega) (by omega)) d_La_law_261 ?_
          refine sn_tope (fun z280 hz280 => ?_)
          have hz280x : z280.toInt = (xs (v23_4.toInt + 3).toNat).toInt := by rw [hz280, show z279.toNatClampNeg = (v23_4.toInt + 3).toNat from by rw [← show z279.toInt = v23_4.toInt + 3 by omega]; rfl]
          have hz280r := sn_rng z280
          clear hz280
          refine tz_call (A1 := ga (adC a) H.size) (tz_runS (As := [.ref (a 0), .long y277, .int z280]) (rest := []) ⟨hx, hb, hml, hown, hts⟩ (c_La_type l hfl dC dI cI cJ a H.size t23_he t23_dp t23_co t23_li t23_op t23_wd t23_tl t23_lc t23_fo t23_sf t23_lf t23_nf y277 z280 ⟨hok.1, hok.2.1, hok.2.2.1, hok.2.2.2.1, hok.2.2.2.2.1, hok.2.2.2.2.2.1, hok.2.2.2.2.2.2.1, hok.2.2.2.2.2.2.2.1, hok.2.2.2.2.2.2.2.2.1, hok.2.2.2.2.2.2.2.2.2.2.2.2.2.2.2.2.2.1, hok.2.2.2.2.2.2.2.2.2.2.2.2.2.2.2.2.2.2.1, hok.2.2.2.2.2.2.2.2.2.2.2.2.2.2.2.2.2.2.2.1⟩) (tx_cb (n := 3) hts rfl rfl ⟨Nat.le_of_ble_eq_true rfl, Nat.le_of_ble_eq_true rfl⟩ (tx_code.ofW (hts _ mw_472)) (hts _ mw_0) (by decide +kernel) (hts _ mw_470)) (hts _ mw_471) ⟨tz_blind, fun U hU hW => ⟨rfl, by rw [hU], by rw [hU]; exact (sh_app (s1 := gsC a t23_he t23_dp t23_co t23_li t23_op t23_wd t23_tl t23_lc t23_fo t23_sf t23_lf t23_nf) (s2 := gsM (fun k => a (200 + k)) t23_mth t23_mtr t23_mdp t23_mzi t23_mco t23_msh t23_mlt t23_mts t23_mmf) hI.1).1, va_K.moved hW.alike hK, hstC _ _ hI.2 U hU hW⟩⟩ rfl rfl hl.1 rfl (lv_room (Nat.le_of_ble_eq_true rfl)) d_La_law_262 ⟨by show (58 + 301 * (513 - (n + 1))) + 1 ≤ 601024; omega, by show (3555 + 1806 * (513 - (n + 1))) + 6 ≤ 7293034; omega⟩) hI.2 (fun q _ h => ga_sub hACC hA0 hI.2 q h) (ga_sub hACC hA0 hI.2) (fun v t H1 locs1 ht hWt hpost _ hk1 hS => ?_) (fun x t H1 locs1 ht hWt hpost _ _ hS => (hpost.2 x rfl).elim)
          rcases hpost.1 _ rfl with ⟨z281, t_tl282, hv, c283, c283_0, c283_1, hI1⟩
          cases hv
          have hI : sI (dC, dI) vcl cI cJ (gsB a t23_he t23_dp t23_co t23_li t23_op t23_wd t_tl282 t23_lc t23_fo t23_mth t23_mtr t23_mdp t23_mzi t23_mco t23_msh t23_mlt t23_mts t23_sf t23_lf t23_nf t23_mmf) A s.heap H1 locs1 := ⟨sh_callC (s1 := gsC a t23_he t23_dp t23_co t23_li t23_op t23_wd t23_tl t23_lc t23_fo t23_sf t23_lf t23_nf) (s2 := gsM (fun k => a (200 + k)) t23_mth t23_mtr t23_mdp t23_mzi t23_mco t23_msh t23_mlt t23_mts t23_mmf) (s1' := gsC a t23_he t23_dp t23_co t23_li t23_op t23_wd t_tl282 t23_lc t23_fo t23_sf t23_lf t23_nf) hI.1 adC_map adC_map hk1 (by rw [← ht]; exact hI1), hS⟩
          have ho284 : okB t23_he t23_dp t23_co t23_li t23_op t23_wd t_tl282 t23_lc t23_fo t23_mth t23_mtr t23_mdp t23_mzi t23_mco t23_msh t23_mlt t23_mts t23_sf t23_lf t23_nf t23_mmf := ⟨c283.1, c283.2.1, c283.2.2.1, c283.2.2.2.1, c283.2.2.2.2.1, c283.2.2.2.2.2.1, c283.2.2.2.2.2.2.1, c283.2.2.2.2.2.2.2.1, c283.2.2.2.2.2.2.2.2.1, hok.2.2.2.2.2.2.2.2.2.1, hok.2.2.2.2.2.2.2.2.2.2.1, hok.2.2.2.2.2.2.2.2.2.2.2.1, hok.2.2.2.2.2.2.2.2.2.2.2.2.1, hok.2.2.2.2.2.2.2.2.2.2.2.2.2.1, hok.2.2.2.2.2.2.2.2.2.2.2.2.2.2.1, hok.2.2.2.2.2.2.2.2.2.2.2.2.2.2.2.1, hok.2.2.2.2.2.2.2.2.2.2.2.2.2.2.2.2.1, c283.2.2.2.2.2.2.2.2.2.1, c283.2.2.2.2.2.2.2.2.2.2.1, c283.2.2.2.2.2.2.2.2.2.2.2, hok.2.2.2.2.2.2.2.2.2.2.2.2.2.2.2.2.2.2.2.2⟩
          obtain ⟨-, -, -, -, -, -, ⟨o285, o286⟩, -, -, -, -, -, -, -, -, -, -, -, -, -, -⟩ := id ho284
          clear hpost hI1 hS ht hWt hk1
          revert hI; generalize H1 = H; generalize locs1 = locs; intro hI
          refine W.widen (k := (59 + 301 * (513 - (n + 1)))) (n := (3561 + 1806 * (513 - (n + 1)))) (by omega) (by omega) ?_
          refine lv_istore (lv' := [(5, .int z281), (0, .ref b), (1, .ref (a 0)), (2, .ref (a 200)), (3, .ref (a 35)), (4, .int v23_4)]) hx hb d_La_law_265 hl (by decide) rfl (fun ls hl => ?_)
          refine lv_aload_n hx hb d_La_law_267 rfl (lv_at hl 3 rfl) ?_
          refine lv_aload_n hx hb d_La_law_268 rfl (lv_at hl 1 rfl) ?_
          refine lv_iload hx hb d_La_law_269 (lv_at hl 5 rfl) ?_
          refine sn_iconst hx hb d_La_law_271 (by decide) (fun z287 hz287 => ?_)
          refine sn_iadd hx hb d_La_law_272 (by omega) (by omega) (fun z288 hz288 => ?_)
          refine va_sld hx hb hX hbl hbA hI.2 (sv_in (by omega) (by omega)) d_La_law_273 ?_
          refine sn_tope (fun z289 hz289 => ?_)
          have hz289x : z289.toInt = (xs (v23_4.toInt + 1).toNat).toInt := by rw [hz289, show z288.toNatClampNeg = (v23_4.toInt + 1).toNat from by rw [← show z288.toInt = v23_4.toInt + 1 by omega]; rfl]
          have hz289r := sn_rng z289
          clear hz289
          refine lv_i2l hx hb d_La_law_274 rfl ?_
          refine lv_topl (fun y290 hy290 => ?_)
          refine sn_bipush hx hb d_La_law_275 (by decide) (fun z291 hz291 => ?_)
          refine lv_lshl hx hb d_La_law_277 rfl ?_
          refine lv_topl (fun y292 hy292 => ?_)
          refine lv_aload_n hx hb d_La_law_278 rfl (lv_at hl 1 rfl) ?_
          refine lv_iload hx hb d_La_law_279 (lv_at hl 5 rfl) ?_
          refine sn_iconst hx hb d_La_law_281 (by decide) (fun z293 hz293 => ?_)
          refine sn_iadd hx hb d_La_law_282 (by omega) (by omega) (fun z294 hz294 => ?_)
          refine va_sld hx hb hX hbl hbA hI.2 (sv_in (by omega) (by omega)) d_La_law_283 ?_
          refine sn_tope (fun z295 hz295 => ?_)
          have hz295x : z295.toInt = (xs (v23_4.toInt + 2).toNat).toInt := by rw [hz295, show z294.toNatClampNeg = (v23_4.toInt + 2).toNat from by rw [← show z294.toInt = v23_4.toInt + 2 by omega]; rfl]
          have hz295r := sn_rng z295
          clear hz295
          refine lv_i2l hx hb d_La_law_284 rfl ?_
          refine lv_topl (fun y296 hy296 => ?_)
          refine lv_ldc2 hx hb hown (hts _ mw_1547) d_La_law_285 ?_
          refine lv_topl (fun c4294967295_297 hc4294967295_297 => ?_)
          refine lv_land hx hb d_La_law_288 ?_
          refine lv_topl (fun y298 hy298 => ?_)
          refine lv_lor hx hb d_La_law_289 ?_
          refine lv_topl (fun y299 hy299 => ?_)
          refine lv_aload_n hx hb d_La_law_290 rfl (lv_at hl 1 rfl) ?_
          refine lv_iload hx hb d_La_law_291 (lv_at hl 5 rfl) ?_
          refine sn_iconst hx hb d_La_law_293 (by decide) (fun z300 hz300 => ?_)
          refine sn_iadd hx hb d_La_law_294 (by omega) (by omega) (fun z301 hz301 => ?_)
          refine va_sld hx hb hX hbl hbA hI.2 (sv_in (by omega) (by omega)) d_La_law_295 ?_
          refine sn_tope (fun z302 hz302 => ?_)
          have hz302x : z302.toInt = (xs (v23_4.toInt + 3).toNat).toInt := by rw [hz302, show z301.toNatClampNeg = (v23_4.toInt + 3).toNat from by rw [← show z301.toInt = v23_4.toInt + 3 by omega]; rfl]
          have hz302r := sn_rng z302
          clear hz302
          refine tz_call (A1 := ga (adM (fun k => a (200 + k))) H.size) (tz_runV (C := "StoryMachineModel") (As := [.long y299, .int z302]) (rest := []) ⟨hx, hb, hml, hown, hts⟩ (c_Mo_type l hfl dC dI cI cJ (fun k => a (200 + k)) H.size t23_mth t23_mtr t23_mdp t23_mzi t23_mco t23_msh t23_mlt t23_mts t23_mmf y299 z302 ⟨ho284.2.2.2.2.2.2.2.2.2.1, ho284.2.2.2.2.2.2.2.2.2.2.1, ho284.2.2.2.2.2.2.2.2.2.2.2.1, ho284.2.2.2.2.2.2.2.2.2.2.2.2.1, ho284.2.2.2.2.2.2.2.2.2.2.2.2.2.1, ho284.2.2.2.2.2.2.2.2.2.2.2.2.2.2.1, ho284.2.2.2.2.2.2.2.2.2.2.2.2.2.2.2.1, ho284.2.2.2.2.2.2.2.2.2.2.2.2.2.2.2.2.1, ho284.2.2.2.2.2.2.2.2.2.2.2.2.2.2.2.2.2.2.2.2⟩) (tx_cb (n := 2) hts rfl rfl ⟨Nat.le_of_ble_eq_true rfl, Nat.le_of_ble_eq_true rfl⟩ (tx_code.of (hts _ mw_1516)) (hts _ mw_12) (by decide +kernel) (hts _ mw_1513)) (hts _ mw_1514) (hts _ mw_1515) ⟨tz_blind, sv_recv (q0 := 0) hts in_Mo hK (show sI (dC, dI) vcl cI cJ _ A s.heap H locs from ⟨(sh_app (s1 := gsC a t23_he t23_dp t23_co t23_li t23_op t23_wd t_tl282 t23_lc t23_fo t23_sf t23_lf t23_nf) (s2 := gsM (fun k => a (200 + k)) t23_mth t23_mtr t23_mdp t23_mzi t23_mco t23_msh t23_mlt t23_mts t23_mmf) hI.1).2.1, hI.2⟩) kM_0 rfl, fun U hU hW => ⟨rfl, by rw [hU], by rw [hU]; exact (sh_app (s1 := gsC a t23_he t23_dp t23_co t23_li t23_op t23_wd t_tl282 t23_lc t23_fo t23_sf t23_lf t23_nf) (s2 := gsM (fun k => a (200 + k)) t23_mth t23_mtr t23_mdp t23_mzi t23_mco t23_msh t23_mlt t23_mts t23_mmf) hI.1).2.1, va_K.moved hW.alike hK, hstM _ _ hI.2 U hU hW⟩⟩ rfl rfl hl.1 rfl (lv_room (Nat.le_of_ble_eq_true rfl)) d_La_law_296 ⟨by show (59 + 301 * (513 - (n + 1))) + 0 ≤ 601024; omega, by show (3561 + 1806 * (513 - (n + 1))) + 0 ≤ 7293034; omega⟩) hI.2 (fun q _ h => ga_sub hACM hA0 hI.2 q h) (ga_sub hACM hA0 hI.2) (fun v t H1 locs1 ht hWt hpost _ hk1 hS => ?_) (fun x t H1 locs1 ht hWt hpost _ _ hS => (hpost.2 x rfl).elim)
          rcases hpost.1 _ rfl with ⟨t_th303, t_ts304, hv, c305, hI1⟩
          cases hv
          have hI : sI (dC, dI) vcl cI cJ (gsB a t23_he t23_dp t23_co t23_li t23_op t23_wd t_tl282 t23_lc t23_fo t_th303 t23_mtr t23_mdp t23_mzi t23_mco t23_msh t23_mlt t_ts304 t23_sf t23_lf t23_nf t23_mmf) A s.heap H1 locs1 := ⟨sh_callM (s1 := gsC a t23_he t23_dp t23_co t23_li t23_op t23_wd t_tl282 t23_lc t23_fo t23_sf t23_lf t23_nf) (s2 := gsM (fun k => a (200 + k)) t23_mth t23_mtr t23_mdp t23_mzi t23_mco t23_msh t23_mlt t23_mts t23_mmf) (s2' := gsM (fun k => a (200 + k)) t_th303 t23_mtr t23_mdp t23_mzi t23_mco t23_msh t23_mlt t_ts304 t23_mmf) hI.1 adM_map adM_map hk1 (by rw [← ht]; exact hI1), hS⟩
          have ho306 : okB t23_he t23_dp t23_co t23_li t23_op t23_wd t_tl282 t23_lc t23_fo t_th303 t23_mtr t23_mdp t23_mzi t23_mco t23_msh t23_mlt t_ts304 t23_sf t23_lf t23_nf t23_mmf := ⟨ho284.1, ho284.2.1, ho284.2.2.1, ho284.2.2.2.1, ho284.2.2.2.2.1, ho284.2.2.2.2.2.1, ho284.2.2.2.2.2.2.1, ho284.2.2.2.2.2.2.2.1, ho284.2.2.2.2.2.2.2.2.1, c305.1, c305.2.1, c305.2.2.1, c305.2.2.2.1, c305.2.2.2.2.1, c305.2.2.2.2.2.1, c305.2.2.2.2.2.2.1, c305.2.2.2.2.2.2.2.1, ho284.2.2.2.2.2.2.2.2.2.2.2.2.2.2.2.2.2.1, ho284.2.2.2.2.2.2.2.2.2.2.2.2.2.2.2.2.2.2.1, ho284.2.2.2.2.2.2.2.2.2.2.2.2.2.2.2.2.2.2.2.1, c305.2.2.2.2.2.2.2.2⟩
          obtain ⟨-, -, -, -, -, -, -, -, -, ⟨o307, o308⟩, -, -, -, -, -, -, ⟨o309, o310⟩, -, -, -, -⟩ := id ho306
          clear hpost hI1 hS ht hWt hk1
          revert hI; generalize H1 = H; generalize locs1 = locs; intro hI
          refine W.widen (k := (59 + 301 * (513 - (n + 1)))) (n := (3561 + 1806 * (513 - (n + 1)))) (by omega) (by omega) ?_
          refine lv_goto (tgt := 464) hx hb d_La_law_299 (by decide) ?_
          refine W.widen (k := (359 + 301 * (513 - (n + 1)))) (n := (5361 + 1806 * (513 - (n + 1)))) (by omega) (by omega) ?_
          exact j464 _ _ _ t23_he t23_dp t23_co t23_li t23_op t23_wd t_tl282 t23_lc t23_fo t_th303 t23_mtr t23_mdp t23_mzi t23_mco t23_msh t23_mlt t_ts304 t23_sf t23_lf t23_nf t23_mmf hI ho306 (by omega) (by omega) (lv_sub hl [1, 2, 3, 4, 5] rfl)
        by_cases b311 : z113.toInt = 4
        · refine sn_tin (v := 4) (off := 263) (tgt := 302) hx hb d_La_law_39 b311 (by decide) (by decide) (by decide) (by decide) ?_
          refine lv_aload_n hx hb d_La_law_302 rfl (lv_at hl 1 rfl) ?_
          refine tz_call (A1 := ga (adC a) H.size) (tz_runV (C := "StoryMachine") (As := []) (rest := []) ⟨hx, hb, hml, hown, hts⟩ (c_SM_enter l hfl dC dI cI cJ a H.size t23_he t23_dp t23_co t23_li t23_op t23_wd t23_tl t23_lc t23_fo t23_sf t23_lf t23_nf  ⟨hok.1, hok.2.1, hok.2.2.1, hok.2.2.2.1, hok.2.2.2.2.1, hok.2.2.2.2.2.1, hok.2.2.2.2.2.2.1, hok.2.2.2.2.2.2.2.1, hok.2.2.2.2.2.2.2.2.1, hok.2.2.2.2.2.2.2.2.2.2.2.2.2.2.2.2.2.1, hok.2.2.2.2.2.2.2.2.2.2.2.2.2.2.2.2.2.2.1, hok.2.2.2.2.2.2.2.2.2.2.2.2.2.2.2.2.2.2.2.1⟩) (tx_cb (n := 0) hts rfl rfl ⟨Nat.le_of_ble_eq_true rfl, Nat.le_of_ble_eq_true rfl⟩ (tx_code.of (hts _ mw_329)) (hts _ mw_1) (by decide +kernel) (hts _ mw_326)) (hts _ mw_327) (hts _ mw_328) ⟨tz_blind, sv_recv (q0 := 0) hts in_SM hK (show sI (dC, dI) vcl cI cJ _ A s.heap H locs from ⟨(sh_app (s1 := gsC a t23_he t23_dp t23_co t23_li t23_op t23_wd t23_tl t23_lc t23_fo t23_sf t23_lf t23_nf) (s2 := gsM (fun k => a (200 + k)) t23_mth t23_mtr t23_mdp t23_mzi t23_mco t23_msh t23_mlt t23_mts t23_mmf) hI.1).1, hI.2⟩) kC_0 rfl, fun U hU hW => ⟨rfl, by rw [hU], by rw [hU]; exact (sh_app (s1 := gsC a t23_he t23_dp t23_co t23_li t23_op t23_wd t23_tl t23_lc t23_fo t23_sf t23_lf t23_nf) (s2 := gsM (fun k => a (200 + k)) t23_mth t23_mtr t23_mdp t23_mzi t23_mco t23_msh t23_mlt t23_mts t23_mmf) hI.1).1, va_K.moved hW.alike hK, hstC _ _ hI.2 U hU hW⟩⟩ rfl rfl hl.1 rfl (lv_room (Nat.le_of_ble_eq_true rfl)) d_La_law_303 ⟨by show (58 + 301 * (513 - (n + 1))) + 0 ≤ 601024; omega, by show (3555 + 1806 * (513 - (n + 1))) + 0 ≤ 7293034; omega⟩) hI.2 (fun q _ h => ga_sub hACC hA0 hI.2 q h) (ga_sub hACC hA0 hI.2) (fun v t H1 locs1 ht hWt hpost _ hk1 hS => ?_) (fun x t H1 locs1 ht hWt hpost _ _ hS => (hpost.2 x rfl).elim)
          rcases hpost.1 _ rfl with ⟨t_tl312, hv, c313, c313_0, hI1⟩
          cases hv
          have hI : sI (dC, dI) vcl cI cJ (gsB a t23_he t23_dp t23_co t23_li t23_op t23_wd t_tl312 t23_lc t23_fo t23_mth t23_mtr t23_mdp t23_mzi t23_mco t23_msh t23_mlt t23_mts t23_sf t23_lf t23_nf t23_mmf) A s.heap H1 locs1 := ⟨sh_callC (s1 := gsC a t23_he t23_dp t23_co t23_li t23_op t23_wd t23_tl t23_lc t23_fo t23_sf t23_lf t23_nf) (s2 := gsM (fun k => a (200 + k)) t23_mth t23_mtr t23_mdp t23_mzi t23_mco t23_msh t23_mlt t23_mts t23_mmf) (s1' := gsC a t23_he t23_dp t23_co t23_li t23_op t23_wd t_tl312 t23_lc t23_fo t23_sf t23_lf t23_nf) hI.1 adC_map adC_map hk1 (by rw [← ht]; exact hI1), hS⟩
          have ho314 : okB t23_he t23_dp t23_co t23_li t23_op t23_wd t_tl312 t23_lc t23_fo t23_mth t23_mtr t23_mdp t23_mzi t23_mco t23_msh t23_mlt t23_mts t23_sf t23_lf t23_nf t23_mmf := ⟨c313.1, c313.2.1, c313.2.2.1, c313.2.2.2.1, c313.2.2.2.2.1, c313.2.2.2.2.2.1, c313.2.2.2.2.2.2.1, c313.2.2.2.2.2.2.2.1, c313.2.2.2.2.2.2.2.2.1, hok.2.2.2.2.2.2.2.2.2.1, hok.2.2.2.2.2.2.2.2.2.2.1, hok.2.2.2.2.2.2.2.2.2.2.2.1, hok.2.2.2.2.2.2.2.2.2.2.2.2.1, hok.2.2.2.2.2.2.2.2.2.2.2.2.2.1, hok.2.2.2.2.2.2.2.2.2.2.2.2.2.2.1, hok.2.2.2.2.2.2.2.2.2.2.2.2.2.2.2.1, hok.2.2.2.2.2.2.2.2.2.2.2.2.2.2.2.2.1, c313.2.2.2.2.2.2.2.2.2.1, c313.2.2.2.2.2.2.2.2.2.2.1, c313.2.2.2.2.2.2.2.2.2.2.2, hok.2.2.2.2.2.2.2.2.2.2.2.2.2.2.2.2.2.2.2.2⟩
          obtain ⟨-, -, -, -, -, -, ⟨o315, o316⟩, -, -, -, -, -, -, -, -, -, -, -, -, -, -⟩ := id ho314
          clear hpost hI1 hS ht hWt hk1
          revert hI; generalize H1 = H; generalize locs1 = locs; intro hI
          refine W.widen (k := (58 + 301 * (513 - (n + 1)))) (n := (3555 + 1806 * (513 - (n + 1)))) (by omega) (by omega) ?_
          refine lv_aload_n hx hb d_La_law_306 rfl (lv_at hl 2 rfl) ?_
          refine tz_call (A1 := ga (adM (fun k => a (200 + k))) H.size) (tz_runV (C := "StoryMachineModel") (As := []) (rest := []) ⟨hx, hb, hml, hown, hts⟩ (c_Mo_enter l hfl dC dI cI cJ (fun k => a (200 + k)) H.size t23_mth t23_mtr t23_mdp t23_mzi t23_mco t23_msh t23_mlt t23_mts t23_mmf  ⟨ho314.2.2.2.2.2.2.2.2.2.1, ho314.2.2.2.2.2.2.2.2.2.2.1, ho314.2.2.2.2.2.2.2.2.2.2.2.1, ho314.2.2.2.2.2.2.2.2.2.2.2.2.1, ho314.2.2.2.2.2.2.2.2.2.2.2.2.2.1, ho314.2.2.2.2.2.2.2.2.2.2.2.2.2.2.1, ho314.2.2.2.2.2.2.2.2.2.2.2.2.2.2.2.1, ho314.2.2.2.2.2.2.2.2.2.2.2.2.2.2.2.2.1, ho314.2.2.2.2.2.2.2.2.2.2.2.2.2.2.2.2.2.2.2.2⟩) (tx_cb (n := 0) hts rfl rfl ⟨Nat.le_of_ble_eq_true rfl, Nat.le_of_ble_eq_true rfl⟩ (tx_code.of (hts _ mw_1522)) (hts _ mw_12) (by decide +kernel) (hts _ mw_1519)) (hts _ mw_1520) (hts _ mw_1521) ⟨tz_blind, sv_recv (q0 := 0) hts in_Mo hK (show sI (dC, dI) vcl cI cJ _ A s.heap H locs from ⟨(sh_app (s1 := gsC a t23_he t23_dp t23_co t23_li t23_op t23_wd t_tl312 t23_lc t23_fo t23_sf t23_lf t23_nf) (s2 := gsM (fun k => a (200 + k)) t23_mth t23_mtr t23_mdp t23_mzi t23_mco t23_msh t23_mlt t23_mts t23_mmf) hI.1).2.1, hI.2⟩) kM_0 rfl, fun U hU hW => ⟨rfl, by rw [hU], by rw [hU]; exact (sh_app (s1 := gsC a t23_he t23_dp t23_co t23_li t23_op t23_wd t_tl312 t23_lc t23_fo t23_sf t23_lf t23_nf) (s2 := gsM (fun k => a (200 + k)) t23_mth t23_mtr t23_mdp t23_mzi t23_mco t23_msh t23_mlt t23_mts t23_mmf) hI.1).2.1, va_K.moved hW.alike hK, hstM _ _ hI.2 U hU hW⟩⟩ rfl rfl hl.1 rfl (lv_room (Nat.le_of_ble_eq_true rfl)) d_La_law_307 ⟨by show (58 + 301 * (513 - (n + 1))) + 0 ≤ 601024; omega, by show (3555 + 1806 * (513 - (n + 1))) + 0 ≤ 7293034; omega⟩) hI.2 (fun q _ h => ga_sub hACM hA0 hI.2 q h) (ga_sub hACM hA0 hI.2) (fun v t H1 locs1 ht hWt hpost _ hk1 hS => ?_) (fun x t H1 locs1 ht hWt hpost _ _ hS => (hpost.2 x rfl).elim)
          rcases hpost.1 _ rfl with ⟨t_th317, t_ts318, hv, c319, c319_0, c319_1, hI1⟩
          cases hv
          have hI : sI (dC, dI) vcl cI cJ (gsB a t23_he t23_dp t23_co t23_li t23_op t23_wd t_tl312 t23_lc t23_fo t_th317 t23_mtr t23_mdp t23_mzi t23_mco t23_msh t23_mlt t_ts318 t23_sf t23_lf t23_nf t23_mmf) A s.heap H1 locs1 := ⟨sh_callM (s1 := gsC a t23_he t23_dp t23_co t23_li t23_op t23_wd t_tl312 t23_lc t23_fo t23_sf t23_lf t23_nf) (s2 := gsM (fun k => a (200 + k)) t23_mth t23_mtr t23_mdp t23_mzi t23_mco t23_msh t23_mlt t23_mts t23_mmf) (s2' := gsM (fun k => a (200 + k)) t_th317 t23_mtr t23_mdp t23_mzi t23_mco t23_msh t23_mlt t_ts318 t23_mmf) hI.1 adM_map adM_map hk1 (by rw [← ht]; exact hI1), hS⟩
          have ho320 : okB t23_he t23_dp t23_co t23_li t23_op t23_wd t_tl312 t23_lc t23_fo t_th317 t23_mtr t23_mdp t23_mzi t23_mco t23_msh t23_mlt t_ts318 t23_sf t23_lf t23_nf t23_mmf := ⟨ho314.1, ho314.2.1, ho314.2.2.1, ho314.2.2.2.1, ho314.2.2.2.2.1, ho314.2.2.2.2.2.1, ho314.2.2.2.2.2.2.1, ho314.2.2.2.2.2.2.2.1, ho314.2.2.2.2.2.2.2.2.1, c319.1, c319.2.1, c319.2.2.1, c319.2.2.2.1, c319.2.2.2.2.1, c319.2.2.2.2.2.1, c319.2.2.2.2.2.2.1, c319.2.2.2.2.2.2.2.1, ho314.2.2.2.2.2.2.2.2.2.2.2.2.2.2.2.2.2.1, ho314.2.2.2.2.2.2.2.2.2.2.2.2.2.2.2.2.2.2.1, ho314.2.2.2.2.2.2.2.2.2.2.2.2.2.2.2.2.2.2.2.1, c319.2.2.2.2.2.2.2.2⟩
          obtain ⟨-, -, -, -, -, -, -, -, -, ⟨o321, o322⟩, -, -, -, -, -, -, ⟨o323, o324⟩, -, -, -, -⟩ := id ho320
          clear hpost hI1 hS ht hWt hk1
          revert hI; generalize H1 = H; generalize locs1 = locs; intro hI
          refine W.widen (k := (58 + 301 * (513 - (n + 1)))) (n := (3555 + 1806 * (513 - (n + 1)))) (by omega) (by omega) ?_
          refine lv_goto (tgt := 464) hx hb d_La_law_310 (by decide) ?_
          refine W.widen (k := (359 + 301 * (513 - (n + 1)))) (n := (5361 + 1806 * (513 - (n + 1)))) (by omega) (by omega) ?_
          exact j464 _ _ _ t23_he t23_dp t23_co t23_li t23_op t23_wd t_tl312 t23_lc t23_fo t_th317 t23_mtr t23_mdp t23_mzi t23_mco t23_msh t23_mlt t_ts318 t23_sf t23_lf t23_nf t23_mmf hI ho320 (by omega) (by omega) (lv_sub hl [0, 1, 2, 3, 4] rfl)
        by_cases b325 : z113.toInt = 5
        · refine sn_tin (v := 5) (off := 274) (tgt := 313) hx hb d_La_law_39 b325 (by decide) (by decide) (by decide) (by decide) ?_
          refine lv_aload_n hx hb d_La_law_313 rfl (lv_at hl 1 rfl) ?_
          refine lv_aload_n hx hb d_La_law_314 rfl (lv_at hl 0 rfl) ?_
          refine lv_iload hx hb d_La_law_315 (lv_at hl 4 rfl) ?_
          refine sn_iconst hx hb d_La_law_317 (by decide) (fun z326 hz326 => ?_)
          refine sn_iadd hx hb d_La_law_318 (by omega) (by omega) (fun z327 hz327 => ?_)
          refine va_sld hx hb hX hbl hbA hI.2 (sv_in (by omega) (by omega)) d_La_law_319 ?_
          refine sn_tope (fun z328 hz328 => ?_)
          have hz328x : z328.toInt = (xs (v23_4.toInt + 1).toNat).toInt := by rw [hz328, show z327.toNatClampNeg = (v23_4.toInt + 1).toNat from by rw [← show z327.toInt = v23_4.toInt + 1 by omega]; rfl]
          have hz328r := sn_rng z328
          clear hz328
          refine lv_aload_n hx hb d_La_law_320 rfl (lv_at hl 3 rfl) ?_
          refine tz_call (A1 := ga (adC a) H.size) (tz_runS (As := [.ref (a 0), .int z328, .ref (a 35)]) (rest := []) ⟨hx, hb, hml, hown, hts⟩ (c_La_run l hfl dC dI cI cJ a H.size t23_he t23_dp t23_co t23_li t23_op t23_wd t23_tl t23_lc t23_fo t23_sf t23_lf t23_nf z328 ⟨hok.1, hok.2.1, hok.2.2.1, hok.2.2.2.1, hok.2.2.2.2.1, hok.2.2.2.2.2.1, hok.2.2.2.2.2.2.1, hok.2.2.2.2.2.2.2.1, hok.2.2.2.2.2.2.2.2.1, hok.2.2.2.2.2.2.2.2.2.2.2.2.2.2.2.2.2.1, hok.2.2.2.2.2.2.2.2.2.2.2.2.2.2.2.2.2.2.1, hok.2.2.2.2.2.2.2.2.2.2.2.2.2.2.2.2.2.2.2.1⟩) (tx_cb (n := 3) hts rfl rfl ⟨Nat.le_of_ble_eq_true rfl, Nat.le_of_ble_eq_true rfl⟩ (tx_code.ofW (hts _ mw_483)) (hts _ mw_0) (by decide +kernel) (hts _ mw_481)) (hts _ mw_482) ⟨tz_blind, fun U hU hW => ⟨rfl, by rw [hU], by rw [hU]; exact (sh_app (s1 := gsC a t23_he t23_dp t23_co t23_li t23_op t23_wd t23_tl t23_lc t23_fo t23_sf t23_lf t23_nf) (s2 := gsM (fun k => a (200 + k)) t23_mth t23_mtr t23_mdp t23_mzi t23_mco t23_msh t23_mlt t23_mts t23_mmf) hI.1).1, va_K.moved hW.alike hK, hstC _ _ hI.2 U hU hW⟩⟩ rfl rfl hl.1 rfl (lv_room (Nat.le_of_ble_eq_true rfl)) d_La_law_321 ⟨by show (58 + 301 * (513 - (n + 1))) + 301 ≤ 601024; omega, by show (3555 + 1806 * (513 - (n + 1))) + 1806 ≤ 7293034; omega⟩) hI.2 (fun q _ h => ga_sub hACC hA0 hI.2 q h) (ga_sub hACC hA0 hI.2) (fun v t H1 locs1 ht hWt hpost _ hk1 hS => ?_) (fun x t H1 locs1 ht hWt hpost _ _ hS => (hpost.2 x rfl).elim)
          rcases hpost.1 _ rfl with ⟨z329, t_he330, t_dp331, t_co332, t_li333, t_op334, t_wd335, t_lc336, t_fo337, f_sf338, f_lf339, f_nf340, hv, c341, c341_0, c341_1, hI1⟩
          cases hv
          have hI : sI (dC, dI) vcl cI cJ (gsB a t_he330 t_dp331 t_co332 t_li333 t_op334 t_wd335 t23_tl t_lc336 t_fo337 t23_mth t23_mtr t23_mdp t23_mzi t23_mco t23_msh t23_mlt t23_mts f_sf338 f_lf339 f_nf340 t23_mmf) A s.heap H1 locs1 := ⟨sh_callC (s1 := gsC a t23_he t23_dp t23_co t23_li t23_op t23_wd t23_tl t23_lc t23_fo t23_sf t23_lf t23_nf) (s2 := gsM (fun k => a (200 + k)) t23_mth t23_mtr t23_mdp t23_mzi t23_mco t23_msh t23_mlt t23_mts t23_mmf) (s1' := gsC a t_he330 t_dp331 t_co332 t_li333 t_op334 t_wd335 t23_tl t_lc336 t_fo337 f_sf338 f_lf339 f_nf340) hI.1 adC_map adC_map hk1 (by rw [← ht]; exact hI1), hS⟩
          have ho342 : okB t_he330 t_dp331 t_co332 t_li333 t_op334 t_wd335 t23_tl t_lc336 t_fo337 t23_mth t23_mtr t23_mdp t23_mzi t23_mco t23_msh t23_mlt t23_mts f_sf338 f_lf339 f_nf340 t23_mmf := ⟨c341.1, c341.2.1, c341.2.2.1, c341.2.2.2.1, c341.2.2.2.2.1, c341.2.2.2.2.2.1, c341.2.2.2.2.2.2.1, c341.2.2.2.2.2.2.2.1, c341.2.2.2.2.2.2.2.2.1, hok.2.2.2.2.2.2.2.2.2.1, hok.2.2.2.2.2.2.2.2.2.2.1, hok.2.2.2.2.2.2.2.2.2.2.2.1, hok.2.2.2.2.2.2.2.2.2.2.2.2.1, hok.2.2.2.2.2.2.2.2.2.2.2.2.2.1, hok.2.2.2.2.2.2.2.2.2.2.2.2.2.2.1, hok.2.2.2.2.2.2.2.2.2.2.2.2.2.2.2.1, hok.2.2.2.2.2.2.2.2.2.2.2.2.2.2.2.2.1, c341.2.2.2.2.2.2.2.2.2.1, c341.2.2.2.2.2.2.2.2.2.2.1, c341.2.2.2.2.2.2.2.2.2.2.2, hok.2.2.2.2.2.2.2.2.2.2.2.2.2.2.2.2.2.2.2.2⟩
          obtain ⟨⟨o343, o344⟩, ⟨o345, o346⟩, ⟨o347, o348⟩, ⟨o349, o350⟩, ⟨o351, o352⟩, ⟨o353, o354⟩, -, ⟨o355, o356⟩, ⟨o357, o358⟩, -, -, -, -, -, -, -, -, o359, -, -, -⟩ := id ho342
          clear hpost hI1 hS ht hWt hk1
          revert hI; generalize H1 = H; generalize locs1 = locs; intro hI
          refine W.widen (k := (359 + 301 * (513 - (n + 1)))) (n := (5361 + 1806 * (513 - (n + 1)))) (by omega) (by omega) ?_
          refine lv_istore (lv' := [(5, .int z329), (0, .ref b), (1, .ref (a 0)), (2, .ref (a 200)), (3, .ref (a 35)), (4, .int v23_4)]) hx hb d_La_law_324 hl (by decide) rfl (fun ls hl => ?_)
          refine lv_aload_n hx hb d_La_law_326 rfl (lv_at hl 3 rfl) ?_
          refine lv_aload_n hx hb d_La_law_327 rfl (lv_at hl 1 rfl) ?_
          refine lv_iload hx hb d_La_law_328 (lv_at hl 5 rfl) ?_
          refine sn_iconst hx hb d_La_law_330 (by decide) (fun z360 hz360 => ?_)
          refine sn_iadd hx hb d_La_law_331 (by omega) (by omega) (fun z361 hz361 => ?_)
          refine va_sld hx hb hX hbl hbA hI.2 (sv_in (by omega) (by omega)) d_La_law_332 ?_
          refine sn_tope (fun z362 hz362 => ?_)
          have hz362x : z362.toInt = (xs (v23_4.toInt + 1).toNat).toInt := by rw [hz362, show z361.toNatClampNeg = (v23_4.toInt + 1).toNat from by rw [← show z361.toInt = v23_4.toInt + 1 by omega]; rfl]
          have hz362r := sn_rng z362
          clear hz362
          refine tz_call (A1 := ga (adM (fun k => a (200 + k))) H.size) (tz_runV (C := "StoryMachineModel") (As := [.int z362]) (rest := []) ⟨hx, hb, hml, hown, hts⟩ (c_Mo_run l hfl dC dI cI cJ (fun k => a (200 + k)) H.size t23_mth t23_mtr t23_mdp t23_mzi t23_mco t23_msh t23_mlt t23_mts t23_mmf z362 ⟨ho342.2.2.2.2.2.2.2.2.2.1, ho342.2.2.2.2.2.2.2.2.2.2.1, ho342.2.2.2.2.2.2.2.2.2.2.2.1, ho342.2.2.2.2.2.2.2.2.2.2.2.2.1, ho342.2.2.2.2.2.2.2.2.2.2.2.2.2.1, ho342.2.2.2.2.2.2.2.2.2.2.2.2.2.2.1, ho342.2.2.2.2.2.2.2.2.2.2.2.2.2.2.2.1, ho342.2.2.2.2.2.2.2.2.2.2.2.2.2.2.2.2.1, ho342.2.2.2.2.2.2.2.2.2.2.2.2.2.2.2.2.2.2.2.2⟩ (by omega)) (tx_cb (n := 1) hts rfl rfl ⟨Nat.le_of_ble_eq_true rfl, Nat.le_of_ble_eq_true rfl⟩ (tx_code.of (hts _ mw_1224)) (hts _ mw_12) (by decide +kernel) (hts _ mw_1221)) (hts _ mw_1222) (hts _ mw_1223) ⟨tz_blind, sv_recv (q0 := 0) hts in_Mo hK (show sI (dC, dI) vcl cI cJ _ A s.heap H locs from ⟨(sh_app (s1 := gsC a t_he330 t_dp331 t_co332 t_li333 t_op334 t_wd335 t23_tl t_lc336 t_fo337 f_sf338 f_lf339 f_nf340) (s2 := gsM (fun k => a (200 + k)) t23_mth t23_mtr t23_mdp t23_mzi t23_mco t23_msh t23_mlt t23_mts t23_mmf) hI.1).2.1, hI.2⟩) kM_0 rfl, fun U hU hW => ⟨rfl, by rw [hU], by rw [hU]; exact (sh_app (s1 := gsC a t_he330 t_dp331 t_co332 t_li333 t_op334 t_wd335 t23_tl t_lc336 t_fo337 f_sf338 f_lf339 f_nf340) (s2 := gsM (fun k => a (200 + k)) t23_mth t23_mtr t23_mdp t23_mzi t23_mco t23_msh t23_mlt t23_mts t23_mmf) hI.1).2.1, va_K.moved hW.alike hK, hstM _ _ hI.2 U hU hW⟩⟩ rfl rfl hl.1 rfl (lv_room (Nat.le_of_ble_eq_true rfl)) d_La_law_333 ⟨by show (359 + 301 * (513 - (n + 1))) + 0 ≤ 601024; omega, by show (5361 + 1806 * (513 - (n + 1))) + 0 ≤ 7293034; omega⟩) hI.2 (fun q _ h => ga_sub hACM hA0 hI.2 q h) (ga_sub hACM hA0 hI.2) (fun v t H1 locs1 ht hWt hpost _ hk1 hS => ?_) (fun x t H1 locs1 ht hWt hpost _ _ hS => (hpost.2 x rfl).elim)
          rcases hpost.1 _ rfl with ⟨z363, t_th364, t_tr365, t_dp366, t_zi367, t_co368, t_sh369, t_lt370, f_mf371, hv, c372, c372_0, c372_1, c372_2, hI1⟩
          cases hv
          have hI : sI (dC, dI) vcl cI cJ (gsB a t_he330 t_dp331 t_co332 t_li333 t_op334 t_wd335 t23_tl t_lc336 t_fo337 t_th364 t_tr365 t_dp366 t_zi367 t_co368 t_sh369 t_lt370 t23_mts f_sf338 f_lf339 f_nf340 f_mf371) A s.heap H1 locs1 := ⟨sh_callM (s1 := gsC a t_he330 t_dp331 t_co332 t_li333 t_op334 t_wd335 t23_tl t_lc336 t_fo337 f_sf338 f_lf339 f_nf340) (s2 := gsM (fun k => a (200 + k)) t23_mth t23_mtr t23_mdp t23_mzi t23_mco t23_msh t23_mlt t23_mts t23_mmf) (s2' := gsM (fun k => a (200 + k)) t_th364 t_tr365 t_dp366 t_zi367 t_co368 t_sh369 t_lt370 t23_mts f_mf371) hI.1 adM_map adM_map hk1 (by rw [← ht]; exact hI1), hS⟩
          have ho373 : okB t_he330 t_dp331 t_co332 t_li333 t_op334 t_wd335 t23_tl t_lc336 t_fo337 t_th364 t_tr365 t_dp366 t_zi367 t_co368 t_sh369 t_lt370 t23_mts f_sf338 f_lf339 f_nf340 f_mf371 := ⟨ho342.1, ho342.2.1, ho342.2.2.1, ho342.2.2.2.1, ho342.2.2.2.2.1, ho342.2.2.2.2.2.1, ho342.2.2.2.2.2.2.1, ho342.2.2.2.2.2.2.2.1, ho342.2.2.2.2.2.2.2.2.1, c372.1, c372.2.1, c372.2.2.1, c372.2.2.2.1, c372.2.2.2.2.1, c372.2.2.2.2.2.1, c372.2.2.2.2.2.2.1, c372.2.2.2.2.2.2.2.1, ho342.2.2.2.2.2.2.2.2.2.2.2.2.2.2.2.2.2.1, ho342.2.2.2.2.2.2.2.2.2.2.2.2.2.2.2.2.2.2.1, ho342.2.2.2.2.2.2.2.2.2.2.2.2.2.2.2.2.2.2.2.1, c372.2.2.2.2.2.2.2.2⟩
          obtain ⟨-, -, -, -, -, -, -, -, -, ⟨o374, o375⟩, ⟨o376, o377⟩, ⟨o378, o379⟩, ⟨o380, o381⟩, ⟨o382, o383⟩, ⟨o384, o385⟩, ⟨o386, o387⟩, -, -, -, -, -⟩ := id ho373
          clear hpost hI1 hS ht hWt hk1
          revert hI; generalize H1 = H; generalize locs1 = locs; intro hI
          refine W.widen (k := (359 + 301 * (513 - (n + 1)))) (n := (5361 + 1806 * (513 - (n + 1)))) (by omega) (by omega) ?_
          refine lv_istore (lv' := [(6, .int z363), (5, .int z329), (0, .ref b), (1, .ref (a 0)), (2, .ref (a 200)), (3, .ref (a 35)), (4, .int v23_4)]) hx hb d_La_law_336 hl (by decide) rfl (fun ls hl => ?_)
          refine lv_goto (tgt := 464) hx hb d_La_law_338 (by decide) ?_
          refine W.widen (k := (359 + 301 * (513 - (n + 1)))) (n := (5361 + 1806 * (513 - (n + 1)))) (by omega) (by omega) ?_
          exact j464 _ _ _ t_he330 t_dp331 t_co332 t_li333 t_op334 t_wd335 t23_tl t_lc336 t_fo337 t_th364 t_tr365 t_dp366 t_zi367 t_co368 t_sh369 t_lt370 t23_mts f_sf338 f_lf339 f_nf340 f_mf371 hI ho373 (by omega) (by omega) (lv_sub hl [2, 3, 4, 5, 6] rfl)
        by_cases b388 : z113.toInt = 6
        · refine sn_tin (v := 6) (off := 302) (tgt := 341) hx hb d_La_law_39 b388 (by decide) (by decide) (by decide) (by decide) ?_
          refine lv_aload_n hx hb d_La_law_341 rfl (lv_at hl 1 rfl) ?_
          refine tz_call (A1 := ga (adC a) H.size) (tz_runV (C := "StoryMachine") (As := []) (rest := []) ⟨hx, hb, hml, hown, hts⟩ (c_SM_steps l hfl dC dI cI cJ a H.size t23_he t23_dp t23_co t23_li t23_op t23_wd t23_tl t23_lc t23_fo t23_sf t23_lf t23_nf  ⟨hok.1, hok.2.1, hok.2.2.1, hok.2.2.2.1, hok.2.2.2.2.1, hok.2.2.2.2.2.1, hok.2.2.2.2.2.2.1, hok.2.2.2.2.2.2.2.1, hok.2.2.2.2.2.2.2.2.1, hok.2.2.2.2.2.2.2.2.2.2.2.2.2.2.2.2.2.1, hok.2.2.2.2.2.2.2.2.2.2.2.2.2.2.2.2.2.2.1, hok.2.2.2.2.2.2.2.2.2.2.2.2.2.2.2.2.2.2.2.1⟩) (tx_cb (n := 0) hts rfl rfl ⟨Nat.le_of_ble_eq_true rfl, Nat.le_of_ble_eq_true rfl⟩ (tx_code.of (hts _ mw_337)) (hts _ mw_1) (by decide +kernel) (hts _ mw_334)) (hts _ mw_335) (hts _ mw_336) ⟨tz_blind, sv_recv (q0 := 0) hts in_SM hK (show sI (dC, dI) vcl cI cJ _ A s.heap H locs from ⟨(sh_app (s1 := gsC a t23_he t23_dp t23_co t23_li t23_op t23_wd t23_tl t23_lc t23_fo t23_sf t23_lf t23_nf) (s2 := gsM (fun k => a (200 + k)) t23_mth t23_mtr t23_mdp t23_mzi t23_mco t23_msh t23_mlt t23_mts t23_mmf) hI.1).1, hI.2⟩) kC_0 rfl, fun U hU hW => ⟨rfl, by rw [hU], by rw [hU]; exact (sh_app (s1 := gsC a t23_he t23_dp t23_co t23_li t23_op t23_wd t23_tl t23_lc t23_fo t23_sf t23_lf t23_nf) (s2 := gsM (fun k => a (200 + k)) t23_mth t23_mtr t23_mdp t23_mzi t23_mco t23_msh t23_mlt t23_mts t23_mmf) hI.1).1, va_K.moved hW.alike hK, hstC _ _ hI.2 U hU hW⟩⟩ rfl rfl hl.1 rfl (lv_room (Nat.le_of_ble_eq_true rfl)) d_La_law_342 ⟨by show (58 + 301 * (513 - (n + 1))) + 0 ≤ 601024; omega, by show (3555 + 1806 * (513 - (n + 1))) + 0 ≤ 7293034; omega⟩) hI.2 (fun q _ h => ga_sub hACC hA0 hI.2 q h) (ga_sub hACC hA0 hI.2) (fun v t H1 locs1 ht hWt hpost _ hk1 hS => ?_) (fun x t H1 locs1 ht hWt hpost _ _ hS => (hpost.2 x rfl).elim)
          rcases hpost.1 _ rfl with ⟨z389, hv, c390, c390_0, c390_1, hI1⟩
          cases hv
          have hI : sI (dC, dI) vcl cI cJ (gsB a t23_he t23_dp t23_co t23_li t23_op t23_wd t23_tl t23_lc t23_fo t23_mth t23_mtr t23_mdp t23_mzi t23_mco t23_msh t23_mlt t23_mts t23_sf t23_lf t23_nf t23_mmf) A s.heap H1 locs1 := ⟨sh_callC (s1 := gsC a t23_he t23_dp t23_co t23_li t23_op t23_wd t23_tl t23_lc t23_fo t23_sf t23_lf t23_nf) (s2 := gsM (fun k => a (200 + k)) t23_mth t23_mtr t23_mdp t23_mzi t23_mco t23_msh t23_mlt t23_mts t23_mmf) (s1' := gsC a t23_he t23_dp t23_co t23_li t23_op t23_wd t23_tl t23_lc t23_fo t23_sf t23_lf t23_nf) hI.1 adC_map adC_map hk1 (by rw [← ht]; exact hI1), hS⟩
          have ho391 : okB t23_he t23_dp t23_co t23_li t23_op t23_wd t23_tl t23_lc t23_fo t23_mth t23_mtr t23_mdp t23_mzi t23_mco t23_msh t23_mlt t23_mts t23_sf t23_lf t23_nf t23_mmf := ⟨c390.1, c390.2.1, c390.2.2.1, c390.2.2.2.1, c390.2.2.2.2.1, c390.2.2.2.2.2.1, c390.2.2.2.2.2.2.1, c390.2.2.2.2.2.2.2.1, c390.2.2.2.2.2.2.2.2.1, hok.2.2.2.2.2.2.2.2.2.1, hok.2.2.2.2.2.2.2.2.2.2.1, hok.2.2.2.2.2.2.2.2.2.2.2.1, hok.2.2.2.2.2.2.2.2.2.2.2.2.1, hok.2.2.2.2.2.2.2.2.2.2.2.2.2.1, hok.2.2.2.2.2.2.2.2.2.2.2.2.2.2.1, hok.2.2.2.2.2.2.2.2.2.2.2.2.2.2.2.1, hok.2.2.2.2.2.2.2.2.2.2.2.2.2.2.2.2.1, c390.2.2.2.2.2.2.2.2.2.1, c390.2.2.2.2.2.2.2.2.2.2.1, c390.2.2.2.2.2.2.2.2.2.2.2, hok.2.2.2.2.2.2.2.2.2.2.2.2.2.2.2.2.2.2.2.2⟩
          clear hpost hI1 hS ht hWt hk1
          revert hI; generalize H1 = H; generalize locs1 = locs; intro hI
          refine W.widen (k := (58 + 301 * (513 - (n + 1)))) (n := (3555 + 1806 * (513 - (n + 1)))) (by omega) (by omega) ?_
          refine lv_pop hx hb d_La_law_345 rfl ?_
          refine lv_aload_n hx hb d_La_law_346 rfl (lv_at hl 2 rfl) ?_
          refine tz_call (A1 := ga (adM (fun k => a (200 + k))) H.size) (tz_runV (C := "StoryMachineModel") (As := []) (rest := []) ⟨hx, hb, hml, hown, hts⟩ (c_Mo_steps l hfl dC dI cI cJ (fun k => a (200 + k)) H.size t23_mth t23_mtr t23_mdp t23_mzi t23_mco t23_msh t23_mlt t23_mts t23_mmf  ⟨ho391.2.2.2.2.2.2.2.2.2.1, ho391.2.2.2.2.2.2.2.2.2.2.1, ho391.2.2.2.2.2.2.2.2.2.2.2.1, ho391.2.2.2.2.2.2.2.2.2.2.2.2.1, ho391.2.2.2.2.2.2.2.2.2.2.2.2.2.1, ho391.2.2.2.2.2.2.2.2.2.2.2.2.2.2.1, ho391.2.2.2.2.2.2.2.2.2.2.2.2.2.2.2.1, ho391.2.2.2.2.2.2.2.2.2.2.2.2.2.2.2.2.1, ho391.2.2.2.2.2.2.2.2.2.2.2.2.2.2.2.2.2.2.2.2⟩) (tx_cb (n := 0) hts rfl rfl ⟨Nat.le_of_ble_eq_true rfl, Nat.le_of_ble_eq_true rfl⟩ (tx_code.of (hts _ mw_1526)) (hts _ mw_12) (by decide +kernel) (hts _ mw_1523)) (hts _ mw_1524) (hts _ mw_1525) ⟨tz_blind, sv_recv (q0 := 0) hts in_Mo hK (show sI (dC, dI) vcl cI cJ _ A s.heap H locs from ⟨(sh_app (s1 := gsC a t23_he t23_dp t23_co t23_li t23_op t23_wd t23_tl t23_lc t23_fo t23_sf t23_lf t23_nf) (s2 := gsM (fun k => a (200 + k)) t23_mth t23_mtr t23_mdp t23_mzi t23_mco t23_msh t23_mlt t23_mts t23_mmf) hI.1).2.1, hI.2⟩) kM_0 rfl, fun U hU hW => ⟨rfl, by rw [hU], by rw [hU]; exact (sh_app (s1 := gsC a t23_he t23_dp t23_co t23_li t23_op t23_wd t23_tl t23_lc t23_fo t23_sf t23_lf t23_nf) (s2 := gsM (fun k => a (200 + k)) t23_mth t23_mtr t23_mdp t23_mzi t23_mco t23_msh t23_mlt t23_mts t23_mmf) hI.1).2.1, va_K.moved hW.alike hK, hstM _ _ hI.2 U hU hW⟩⟩ rfl rfl hl.1 rfl (lv_room (Nat.le_of_ble_eq_true rfl)) d_La_law_347 ⟨by show (58 + 301 * (513 - (n + 1))) + 0 ≤ 601024; omega, by show (3555 + 1806 * (513 - (n + 1))) + 0 ≤ 7293034; omega⟩) hI.2 (fun q _ h => ga_sub hACM hA0 hI.2 q h) (ga_sub hACM hA0 hI.2) (fun v t H1 locs1 ht hWt hpost _ hk1 hS => ?_) (fun x t H1 locs1 ht hWt hpost _ _ hS => (hpost.2 x rfl).elim)
          rcases hpost.1 _ rfl with ⟨z392, t_th393, hv, c394, c394_0, c394_1, c394_2, hI1⟩
          cases hv
          have hI : sI (dC, dI) vcl cI cJ (gsB a t23_he t23_dp t23_co t23_li t23_op t23_wd t23_tl t23_lc t23_fo t_th393 t23_mtr t23_mdp t23_mzi t23_mco t23_msh t23_mlt t23_mts t23_sf t23_lf t23_nf t23_mmf) A s.heap H1 locs1 := ⟨sh_callM (s1 := gsC a t23_he t23_dp t23_co t23_li t23_op t23_wd t23_tl t23_lc t23_fo t23_sf t23_lf t23_nf) (s2 := gsM (fun k => a (200 + k)) t23_mth t23_mtr t23_mdp t23_mzi t23_mco t23_msh t23_mlt t23_mts t23_mmf) (s2' := gsM (fun k => a (200 + k)) t_th393 t23_mtr t23_mdp t23_mzi t23_mco t23_msh t23_mlt t23_mts t23_mmf) hI.1 adM_map adM_map hk1 (by rw [← ht]; exact hI1), hS⟩
          have ho395 : okB t23_he t23_dp t23_co t23_li t23_op t23_wd t23_tl t23_lc t23_fo t_th393 t23_mtr t23_mdp t23_mzi t23_mco t23_msh t23_mlt t23_mts t23_sf t23_lf t23_nf t23_mmf := ⟨ho391.1, ho391.2.1, ho391.2.2.1, ho391.2.2.2.1, ho391.2.2.2.2.1, ho391.2.2.2.2.2.1, ho391.2.2.2.2.2.2.1, ho391.2.2.2.2.2.2.2.1, ho391.2.2.2.2.2.2.2.2.1, c394.1, c394.2.1, c394.2.2.1, c394.2.2.2.1, c394.2.2.2.2.1, c394.2.2.2.2.2.1, c394.2.2.2.2.2.2.1, c394.2.2.2.2.2.2.2.1, ho391.2.2.2.2.2.2.2.2.2.2.2.2.2.2.2.2.2.1, ho391.2.2.2.2.2.2.2.2.2.2.2.2.2.2.2.2.2.2.1, ho391.2.2.2.2.2.2.2.2.2.2.2.2.2.2.2.2.2.2.2.1, c394.2.2.2.2.2.2.2.2⟩
          obtain ⟨-, -, -, -, -, -, -, -, -, ⟨o396, o397⟩, -, -, -, -, -, -, -, -, -, -, -⟩ := id ho395
          clear hpost hI1 hS ht hWt hk1
          revert hI; generalize H1 = H; generalize locs1 = locs; intro hI
          refine W.widen (k := (58 + 301 * (513 - (n + 1)))) (n := (3555 + 1806 * (513 - (n + 1)))) (by omega) (by omega) ?_
          refine lv_pop hx hb d_La_law_350 rfl ?_
          refine lv_goto (tgt := 464) hx hb d_La_law_351 (by decide) ?_
          refine W.widen (k := (359 + 301 * (513 - (n + 1)))) (n := (5361 + 1806 * (513 - (n + 1)))) (by omega) (by omega) ?_
          exact j464 _ _ _ t23_he t23_dp t23_co t23_li t23_op t23_wd t23_tl t23_lc t23_fo t_th393 t23_mtr t23_mdp t23_mzi t23_mco t23_msh t23_mlt t23_mts t23_sf t23_lf t23_nf t23_mmf hI ho395 (by omega) (by omega) (lv_sub hl [0, 1, 2, 3, 4] rfl)
        by_cases b398 : z113.toInt = 7
        · refine sn_tin (v := 7) (off := 315) (tgt := 354) hx hb d_La_law_39 b398 (by decide) (by decide) (by decide) (by decide) ?_
          refine lv_aload_n hx hb d_La_law_354 rfl (lv_at hl 1 rfl) ?_
          refine tz_call (A1 := ga (adC a) H.size) (tz_runV (C := "StoryMachine") (As := []) (rest := []) ⟨hx, hb, hml, hown, hts⟩ (c_SM_place l hfl dC dI cI cJ a H.size t23_he t23_dp t23_co t23_li t23_op t23_wd t23_tl t23_lc t23_fo t23_sf t23_lf t23_nf  ⟨hok.1, hok.2.1, hok.2.2.1, hok.2.2.2.1, hok.2.2.2.2.1, hok.2.2.2.2.2.1, hok.2.2.2.2.2.2.1, hok.2.2.2.2.2.2.2.1, hok.2.2.2.2.2.2.2.2.1, hok.2.2.2.2.2.2.2.2.2.2.2.2.2.2.2.2.2.1, hok.2.2.2.2.2.2.2.2.2.2.2.2.2.2.2.2.2.2.1, hok.2.2.2.2.2.2.2.2.2.2.2.2.2.2.2.2.2.2.2.1⟩) (tx_cb (n := 0) hts rfl rfl ⟨Nat.le_of_ble_eq_true rfl, Nat.le_of_ble_eq_true rfl⟩ (tx_code.of (hts _ mw_341)) (hts _ mw_1) (by decide +kernel) (hts _ mw_338)) (hts _ mw_339) (hts _ mw_340) ⟨tz_blind, sv_recv (q0 := 0) hts in_SM hK (show sI (dC, dI) vcl cI cJ _ A s.heap H locs from ⟨(sh_app (s1 := gsC a t23_he t23_dp t23_co t23_li t23_op t23_wd t23_tl t23_lc t23_fo t23_sf t23_lf t23_nf) (s2 := gsM (fun k => a (200 + k)) t23_mth t23_mtr t23_mdp t23_mzi t23_mco t23_msh t23_mlt t23_mts t23_mmf) hI.1).1, hI.2⟩) kC_0 rfl, fun U hU hW => ⟨rfl, by rw [hU], by rw [hU]; exact (sh_app (s1 := gsC a t23_he t23_dp t23_co t23_li t23_op t23_wd t23_tl t23_lc t23_fo t23_sf t23_lf t23_nf) (s2 := gsM (fun k => a (200 + k)) t23_mth t23_mtr t23_mdp t23_mzi t23_mco t23_msh t23_mlt t23_mts t23_mmf) hI.1).1, va_K.moved hW.alike hK, hstC _ _ hI.2 U hU hW⟩⟩ rfl rfl hl.1 rfl (lv_room (Nat.le_of_ble_eq_true rfl)) d_La_law_355 ⟨by show (58 + 301 * (513 - (n + 1))) + 0 ≤ 601024; omega, by show (3555 + 1806 * (513 - (n + 1))) + 0 ≤ 7293034; omega⟩) hI.2 (fun q _ h => ga_sub hACC hA0 hI.2 q h) (ga_sub hACC hA0 hI.2) (fun v t H1 locs1 ht hWt hpost _ hk1 hS => ?_) (fun x t H1 locs1 ht hWt hpost _ _ hS => (hpost.2 x rfl).elim)
          rcases hpost.1 _ rfl with ⟨z399, hv, c400, c400_0, c400_1, hI1⟩
          cases hv
          have hI : sI (dC, dI) vcl cI cJ (gsB a t23_he t23_dp t23_co t23_li t23_op t23_wd t23_tl t23_lc t23_fo t23_mth t23_mtr t23_mdp t23_mzi t23_mco t23_msh t23_mlt t23_mts t23_sf t23_lf t23_nf t23_mmf) A s.heap H1 locs1 := ⟨sh_callC (s1 := gsC a t23_he t23_dp t23_co t23_li t23_op t23_wd t23_tl t23_lc t23_fo t23_sf t23_lf t23_nf) (s2 := gsM (fun k => a (200 + k)) t23_mth t23_mtr t23_mdp t23_mzi t23_mco t23_msh t23_mlt t23_mts t23_mmf) (s1' := gsC a t23_he t23_dp t23_co t23_li t23_op t23_wd t23_tl t23_lc t23_fo t23_sf t23_lf t23_nf) hI.1 adC_map adC_map hk1 (by rw [← ht]; exact hI1), hS⟩
          have ho401 : okB t23_he t23_dp t23_co t23_li t23_op t23_wd t23_tl t23_lc t23_fo t23_mth t23_mtr t23_mdp t23_mzi t23_mco t23_msh t23_mlt t23_mts t23_sf t23_lf t23_nf t23_mmf := ⟨c400.1, c400.2.1, c400.2.2.1, c400.2.2.2.1, c400.2.2.2.2.1, c400.2.2.2.2.2.1, c400.2.2.2.2.2.2.1, c400.2.2.2.2.2.2.2.1, c400.2.2.2.2.2.2.2.2.1, hok.2.2.2.2.2.2.2.2.2.1, hok.2.2.2.2.2.2.2.2.2.2.1, hok.2.2.2.2.2.2.2.2.2.2.2.1, hok.2.2.2.2.2.2.2.2.2.2.2.2.1, hok.2.2.2.2.2.2.2.2.2.2.2.2.2.1, hok.2.2.2.2.2.2.2.2.2.2.2.2.2.2.1, hok.2.2.2.2.2.2.2.2.2.2.2.2.2.2.2.1, hok.2.2.2.2.2.2.2.2.2.2.2.2.2.2.2.2.1, c400.2.2.2.2.2.2.2.2.2.1, c400.2.2.2.2.2.2.2.2.2.2.1, c400.2.2.2.2.2.2.2.2.2.2.2, hok.2.2.2.2.2.2.2.2.2.2.2.2.2.2.2.2.2.2.2.2⟩
          clear hpost hI1 hS ht hWt hk1
          revert hI; generalize H1 = H; generalize locs1 = locs; intro hI
          refine W.widen (k := (58 + 301 * (513 - (n + 1)))) (n := (3555 + 1806 * (513 - (n + 1)))) (by omega) (by omega) ?_
          refine lv_pop hx hb d_La_law_358 rfl ?_
          refine lv_aload_n hx hb d_La_law_359 rfl (lv_at hl 2 rfl) ?_
          refine tz_call (A1 := ga (adM (fun k => a (200 + k))) H.size) (tz_runV (C := "StoryMachineModel") (As := []) (rest := []) ⟨hx, hb, hml, hown, hts⟩ (c_Mo_place l hfl dC dI cI cJ (fun k => a (200 + k)) H.size t23_mth t23_mtr t23_mdp t23_mzi t23_mco t23_msh t23_mlt t23_mts t23_mmf  ⟨ho401.2.2.2.2.2.2.2.2.2.1, ho401.2.2.2.2.2.2.2.2.2.2.1, ho401.2.2.2.2.2.2.2.2.2.2.2.1, ho401.2.2.2.2.2.2.2.2.2.2.2.2.1, ho401.2.2.2.2.2.2.2.2.2.2.2.2.2.1, ho401.2.2.2.2.2.2.2.2.2.2.2.2.2.2.1, ho401.2.2.2.2.2.2.2.2.2.2.2.2.2.2.2.1, ho401.2.2.2.2.2.2.2.2.2.2.2.2.2.2.2.2.1, ho401.2.2.2.2.2.2.2.2.2.2.2.2.2.2.2.2.2.2.2.2⟩) (tx_cb (n := 0) hts rfl rfl ⟨Nat.le_of_ble_eq_true rfl, Nat.le_of_ble_eq_true rfl⟩ (tx_code.of (hts _ mw_1530)) (hts _ mw_12) (by decide +kernel) (hts _ mw_1527)) (hts _ mw_1528) (hts _ mw_1529) ⟨tz_blind, sv_recv (q0 := 0) hts in_Mo hK (show sI (dC, dI) vcl cI cJ _ A s.heap H locs from ⟨(sh_app (s1 := gsC a t23_he t23_dp t23_co t23_li t23_op t23_wd t23_tl t23_lc t23_fo t23_sf t23_lf t23_nf) (s2 := gsM (fun k => a (200 + k)) t23_mth t23_mtr t23_mdp t23_mzi t23_mco t23_msh t23_mlt t23_mts t23_mmf) hI.1).2.1, hI.2⟩) kM_0 rfl, fun U hU hW => ⟨rfl, by rw [hU], by rw [hU]; exact (sh_app (s1 := gsC a t23_he t23_dp t23_co t23_li t23_op t23_wd t23_tl t23_lc t23_fo t23_sf t23_lf t23_nf) (s2 := gsM (fun k => a (200 + k)) t23_mth t23_mtr t23_mdp t23_mzi t23_mco t23_msh t23_mlt t23_mts t23_mmf) hI.1).2.1, va_K.moved hW.alike hK, hstM _ _ hI.2 U hU hW⟩⟩ rfl rfl hl.1 rfl (lv_room (Nat.le_of_ble_eq_true rfl)) d_La_law_360 ⟨by show (58 + 301 * (513 - (n + 1))) + 0 ≤ 601024; omega, by show (3555 + 1806 * (513 - (n + 1))) + 0 ≤ 7293034; omega⟩) hI.2 (fun q _ h => ga_sub hACM hA0 hI.2 q h) (ga_sub hACM hA0 hI.2) (fun v t H1 locs1 ht hWt hpost _ hk1 hS => ?_) (fun x t H1 locs1 ht hWt hpost _ _ hS => (hpost.2 x rfl).elim)
          rcases hpost.1 _ rfl with ⟨z402, t_th403, hv, c404, c404_0, c404_1, c404_2, hI1⟩
          cases hv
          have hI : sI (dC, dI) vcl cI cJ (gsB a t23_he t23_dp t23_co t23_li t23_op t23_wd t23_tl t23_lc t23_fo t_th403 t23_mtr t23_mdp t23_mzi t23_mco t23_msh t23_mlt t23_mts t23_sf t23_lf t23_nf t23_mmf) A s.heap H1 locs1 := ⟨sh_callM (s1 := gsC a t23_he t23_dp t23_co t23_li t23_op t23_wd t23_tl t23_lc t23_fo t23_sf t23_lf t23_nf) (s2 := gsM (fun k => a (200 + k)) t23_mth t23_mtr t23_mdp t23_mzi t23_mco t23_msh t23_mlt t23_mts t23_mmf) (s2' := gsM (fun k => a (200 + k)) t_th403 t23_mtr t23_mdp t23_mzi t23_mco t23_msh t23_mlt t23_mts t23_mmf) hI.1 adM_map adM_map hk1 (by rw [← ht]; exact hI1), hS⟩
          have ho405 : okB t23_he t23_dp t23_co t23_li t23_op t23_wd t23_tl t23_lc t23_fo t_th403 t23_mtr t23_mdp t23_mzi t23_mco t23_msh t23_mlt t23_mts t23_sf t23_lf t23_nf t23_mmf := ⟨ho401.1, ho401.2.1, ho401.2.2.1, ho401.2.2.2.1, ho401.2.2.2.2.1, ho401.2.2.2.2.2.1, ho401.2.2.2.2.2.2.1, ho401.2.2.2.2.2.2.2.1, ho401.2.2.2.2.2.2.2.2.1, c404.1, c404.2.1, c404.2.2.1, c404.2.2.2.1, c404.2.2.2.2.1, c404.2.2.2.2.2.1, c404.2.2.2.2.2.2.1, c404.2.2.2.2.2.2.2.1, ho401.2.2.2.2.2.2.2.2.2.2.2.2.2.2.2.2.2.1, ho401.2.2.2.2.2.2.2.2.2.2.2.2.2.2.2.2.2.2.1, ho401.2.2.2.2.2.2.2.2.2.2.2.2.2.2.2.2.2.2.2.1, c404.2.2.2.2.2.2.2.2⟩
          obtain ⟨-, -, -, -, -, -, -, -, -, ⟨o406, o407⟩, -, -, -, -, -, -, -, -, -, -, -⟩ := id ho405
          clear hpost hI1 hS ht hWt hk1
          revert hI; generalize H1 = H; generalize locs1 = locs; intro hI
          refine W.widen (k := (58 + 301 * (513 - (n + 1)))) (n := (3555 + 1806 * (513 - (n + 1)))) (by omega) (by omega) ?_
          refine lv_pop hx hb d_La_law_363 rfl ?_
          refine lv_goto (tgt := 464) hx hb d_La_law_364 (by decide) ?_
          refine W.widen (k := (359 + 301 * (513 - (n + 1)))) (n := (5361 + 1806 * (513 - (n + 1)))) (by omega) (by omega) ?_
          exact j464 _ _ _ t23_he t23_dp t23_co t23_li t23_op t23_wd t23_tl t23_lc t23_fo t_th403 t23_mtr t23_mdp t23_mzi t23_mco t23_msh t23_mlt t23_mts t23_sf t23_lf t23_nf t23_mmf hI ho405 (by omega) (by omega) (lv_sub hl [0, 1, 2, 3, 4] rfl)
        by_cases b408 : z113.toInt = 8
        · refine sn_tin (v := 8) (off := 328) (tgt := 367) hx hb d_La_law_39 b408 (by decide) (by decide) (by decide) (by decide) ?_
          refine lv_aload_n hx hb d_La_law_367 rfl (lv_at hl 1 rfl) ?_
          refine lv_aload_n hx hb d_La_law_368 rfl (lv_at hl 0 rfl) ?_
          refine lv_iload hx hb d_La_law_369 (lv_at hl 4 rfl) ?_
          refine sn_iconst hx hb d_La_law_371 (by decide) (fun z409 hz409 => ?_)
          refine sn_iadd hx hb d_La_law_372 (by omega) (by omega) (fun z410 hz410 => ?_)
          refine va_sld hx hb hX hbl hbA hI.2 (sv_in (by omega) (by omega)) d_La_law_373 ?_
          refine sn_tope (fun z411 hz411 => ?_)
          have hz411x : z411.toInt = (xs (v23_4.toInt + 1).toNat).toInt := by rw [hz411, show z410.toNatClampNeg = (v23_4.toInt + 1).toNat from by rw [← show z410.toInt = v23_4.toInt + 1 by omega]; rfl]
          have hz411r := sn_rng z411
          clear hz411
          refine lv_aload_n hx hb d_La_law_374 rfl (lv_at hl 3 rfl) ?_
          refine tz_call (A1 := ga (adC a) H.size) (tz_runS (As := [.ref (a 0), .int z411, .ref (a 35)]) (rest := []) ⟨hx, hb, hml, hown, hts⟩ (c_La_output l hfl dC dI cI cJ a H.size t23_he t23_dp t23_co t23_li t23_op t23_wd t23_tl t23_lc t23_fo t23_sf t23_lf t23_nf z411 ⟨hok.1, hok.2.1, hok.2.2.1, hok.2.2.2.1, hok.2.2.2.2.1, hok.2.2.2.2.2.1, hok.2.2.2.2.2.2.1, hok.2.2.2.2.2.2.2.1, hok.2.2.2.2.2.2.2.2.1, hok.2.2.2.2.2.2.2.2.2.2.2.2.2.2.2.2.2.1, hok.2.2.2.2.2.2.2.2.2.2.2.2.2.2.2.2.2.2.1, hok.2.2.2.2.2.2.2.2.2.2.2.2.2.2.2.2.2.2.2.1⟩) (tx_cb (n := 3) hts rfl rfl ⟨Nat.le_of_ble_eq_true rfl, Nat.le_of_ble_eq_true rfl⟩ (tx_code.ofW (hts _ mw_1013)) (hts _ mw_0) (by decide +kernel) (hts _ mw_1011)) (hts _ mw_1012) ⟨tz_blind, fun U hU hW => ⟨rfl, by rw [hU], by rw [hU]; exact (sh_app (s1 := gsC a t23_he t23_dp t23_co t23_li t23_op t23_wd t23_tl t23_lc t23_fo t23_sf t23_lf t23_nf) (s2 := gsM (fun k => a (200 + k)) t23_mth t23_mtr t23_mdp t23_mzi t23_mco t23_msh t23_mlt t23_mts t23_mmf) hI.1).1, va_K.moved hW.alike hK, hstC _ _ hI.2 U hU hW⟩⟩ rfl rfl hl.1 rfl (lv_room (Nat.le_of_ble_eq_true rfl)) d_La_law_375 ⟨by show (58 + 301 * (513 - (n + 1))) + 1 ≤ 601024; omega, by show (3555 + 1806 * (513 - (n + 1))) + 6 ≤ 7293034; omega⟩) hI.2 (fun q _ h => ga_sub hACC hA0 hI.2 q h) (ga_sub hACC hA0 hI.2) (fun v t H1 locs1 ht hWt hpost _ hk1 hS => ?_) (fun x t H1 locs1 ht hWt hpost _ _ hS => (hpost.2 x rfl).elim)
          rcases hpost.1 _ rfl with ⟨z412, hv, c413, c413_0, c413_1, hI1⟩
          cases hv
          have hI : sI (dC, dI) vcl cI cJ (gsB a t23_he t23_dp t23_co t23_li t23_op t23_wd t23_tl t23_lc t23_fo t23_mth t23_mtr t23_mdp t23_mzi t23_mco t23_msh t23_mlt t23_mts t23_sf t23_lf t23_nf t23_mmf) A s.heap H1 locs1 := ⟨sh_callC (s1 := gsC a t23_he t23_dp t23_co t23_li t23_op t23_wd t23_tl t23_lc t23_fo t23_sf t23_lf t23_nf) (s2 := gsM (fun k => a (200 + k)) t23_mth t23_mtr t23_mdp t23_mzi t23_mco t23_msh t23_mlt t23_mts t23_mmf) (s1' := gsC a t23_he t23_dp t23_co t23_li t23_op t23_wd t23_tl t23_lc t23_fo t23_sf t23_lf t23_nf) hI.1 adC_map adC_map hk1 (by rw [← ht]; exact hI1), hS⟩
          have ho414 : okB t23_he t23_dp t23_co t23_li t23_op t23_wd t23_tl t23_lc t23_fo t23_mth t23_mtr t23_mdp t23_mzi t23_mco t23_msh t23_mlt t23_mts t23_sf t23_lf t23_nf t23_mmf := ⟨c413.1, c413.2.1, c413.2.2.1, c413.2.2.2.1, c413.2.2.2.2.1, c413.2.2.2.2.2.1, c413.2.2.2.2.2.2.1, c413.2.2.2.2.2.2.2.1, c413.2.2.2.2.2.2.2.2.1, hok.2.2.2.2.2.2.2.2.2.1, hok.2.2.2.2.2.2.2.2.2.2.1, hok.2.2.2.2.2.2.2.2.2.2.2.1, hok.2.2.2.2.2.2.2.2.2.2.2.2.1, hok.2.2.2.2.2.2.2.2.2.2.2.2.2.1, hok.2.2.2.2.2.2.2.2.2.2.2.2.2.2.1, hok.2.2.2.2.2.2.2.2.2.2.2.2.2.2.2.1, hok.2.2.2.2.2.2.2.2.2.2.2.2.2.2.2.2.1, c413.2.2.2.2.2.2.2.2.2.1, c413.2.2.2.2.2.2.2.2.2.2.1, c413.2.2.2.2.2.2.2.2.2.2.2, hok.2.2.2.2.2.2.2.2.2.2.2.2.2.2.2.2.2.2.2.2⟩
          clear hpost hI1 hS ht hWt hk1
          revert hI; generalize H1 = H; generalize locs1 = locs; intro hI
          refine W.widen (k := (59 + 301 * (513 - (n + 1)))) (n := (3561 + 1806 * (513 - (n + 1)))) (by omega) (by omega) ?_
          refine lv_istore (lv' := [(5, .int z412), (0, .ref b), (1, .ref (a 0)), (2, .ref (a 200)), (3, .ref (a 35)), (4, .int v23_4)]) hx hb d_La_law_378 hl (by decide) rfl (fun ls hl => ?_)
          refine lv_aload_n hx hb d_La_law_380 rfl (lv_at hl 3 rfl) ?_
          refine lv_aload_n hx hb d_La_law_381 rfl (lv_at hl 1 rfl) ?_
          refine lv_iload hx hb d_La_law_382 (lv_at hl 5 rfl) ?_
          refine sn_iconst hx hb d_La_law_384 (by decide) (fun z415 hz415 => ?_)
          refine sn_iadd hx hb d_La_law_385 (by omega) (by omega) (fun z416 hz416 => ?_)
          refine va_sld hx hb hX hbl hbA hI.2 (sv_in (by omega) (by omega)) d_La_law_386 ?_
          refine sn_tope (fun z417 hz417 => ?_)
          have hz417x : z417.toInt = (xs (v23_4.toInt + 1).toNat).toInt := by rw [hz417, show z416.toNatClampNeg = (v23_4.toInt + 1).toNat from by rw [← show z416.toInt = v23_4.toInt + 1 by omega]; rfl]
          have hz417r := sn_rng z417
          clear hz417
          refine tz_call (A1 := ga (adM (fun k => a (200 + k))) H.size) (tz_runV (C := "StoryMachineModel") (As := [.int z417]) (rest := []) ⟨hx, hb, hml, hown, hts⟩ (c_Mo_output l hfl dC dI cI cJ (fun k => a (200 + k)) H.size t23_mth t23_mtr t23_mdp t23_mzi t23_mco t23_msh t23_mlt t23_mts t23_mmf z417 ⟨ho414.2.2.2.2.2.2.2.2.2.1, ho414.2.2.2.2.2.2.2.2.2.2.1, ho414.2.2.2.2.2.2.2.2.2.2.2.1, ho414.2.2.2.2.2.2.2.2.2.2.2.2.1, ho414.2.2.2.2.2.2.2.2.2.2.2.2.2.1, ho414.2.2.2.2.2.2.2.2.2.2.2.2.2.2.1, ho414.2.2.2.2.2.2.2.2.2.2.2.2.2.2.2.1, ho414.2.2.2.2.2.2.2.2.2.2.2.2.2.2.2.2.1, ho414.2.2.2.2.2.2.2.2.2.2.2.2.2.2.2.2.2.2.2.2⟩) (tx_cb (n := 1) hts rfl rfl ⟨Nat.le_of_ble_eq_true rfl, Nat.le_of_ble_eq_true rfl⟩ (tx_code.of (hts _ mw_1534)) (hts _ mw_12) (by decide +kernel) (hts _ mw_1531)) (hts _ mw_1532) (hts _ mw_1533) ⟨tz_blind, sv_recv (q0 := 0) hts in_Mo hK (show sI (dC, dI) vcl cI cJ _ A s.heap H locs from ⟨(sh_app (s1 := gsC a t23_he t23_dp t23_co t23_li t23_op t23_wd t23_tl t23_lc t23_fo t23_sf t23_lf t23_nf) (s2 := gsM (fun k => a (200 + k)) t23_mth t23_mtr t23_mdp t23_mzi t23_mco t23_msh t23_mlt t23_mts t23_mmf) hI.1).2.1, hI.2⟩) kM_0 rfl, fun U hU hW => ⟨rfl, by rw [hU], by rw [hU]; exact (sh_app (s1 := gsC a t23_he t23_dp t23_co t23_li t23_op t23_wd t23_tl t23_lc t23_fo t23_sf t23_lf t23_nf) (s2 := gsM (fun k => a (200 + k)) t23_mth t23_mtr t23_mdp t23_mzi t23_mco t23_msh t23_mlt t23_mts t23_mmf) hI.1).2.1, va_K.moved hW.alike hK, hstM _ _ hI.2 U hU hW⟩⟩ rfl rfl hl.1 rfl (lv_room (Nat.le_of_ble_eq_true rfl)) d_La_law_387 ⟨by show (59 + 301 * (513 - (n + 1))) + 0 ≤ 601024; omega, by show (3561 + 1806 * (513 - (n + 1))) + 0 ≤ 7293034; omega⟩) hI.2 (fun q _ h => ga_sub hACM hA0 hI.2 q h) (ga_sub hACM hA0 hI.2) (fun v t H1 locs1 ht hWt hpost _ hk1 hS => ?_) (fun x t H1 locs1 ht hWt hpost _ _ hS => (hpost.2 x rfl).elim)
          rcases hpost.1 _ rfl with ⟨z418, t_th419, hv, c420, c420_0, c420_1, c420_2, hI1⟩
          cases hv
          have hI : sI (dC, dI) vcl cI cJ (gsB a t23_he t23_dp t23_co t23_li t23_op t23_wd t23_tl t23_lc t23_fo t_th419 t23_mtr t23_mdp t23_mzi t23_mco t23_msh t23_mlt t23_mts t23_sf t23_lf t23_nf t23_mmf) A s.heap H1 locs1 := ⟨sh_callM (s1 := gsC a t23_he t23_dp t23_co t23_li t23_op t23_wd t23_tl t23_lc t23_fo t23_sf t23_lf t23_nf) (s2 := gsM (fun k => a (200 + k)) t23_mth t23_mtr t23_mdp t23_mzi t23_mco t23_msh t23_mlt t23_mts t23_mmf) (s2' := gsM (fun k => a (200 + k)) t_th419 t23_mtr t23_mdp t23_mzi t23_mco t23_msh t23_mlt t23_mts t23_mmf) hI.1 adM_map adM_map hk1 (by rw [← ht]; exact hI1), hS⟩
          have ho421 : okB t23_he t23_dp t23_co t23_li t23_op t23_wd t23_tl t23_lc t23_fo t_th419 t23_mtr t23_mdp t23_mzi t23_mco t23_msh t23_mlt t23_mts t23_sf t23_lf t23_nf t23_mmf := ⟨ho414.1, ho414.2.1, ho414.2.2.1, ho414.2.2.2.1, ho414.2.2.2.2.1, ho414.2.2.2.2.2.1, ho414.2.2.2.2.2.2.1, ho414.2.2.2.2.2.2.2.1, ho414.2.2.2.2.2.2.2.2.1, c420.1, c420.2.1, c420.2.2.1, c420.2.2.2.1, c420.2.2.2.2.1, c420.2.2.2.2.2.1, c420.2.2.2.2.2.2.1, c420.2.2.2.2.2.2.2.1, ho414.2.2.2.2.2.2.2.2.2.2.2.2.2.2.2.2.2.1, ho414.2.2.2.2.2.2.2.2.2.2.2.2.2.2.2.2.2.2.1, ho414.2.2.2.2.2.2.2.2.2.2.2.2.2.2.2.2.2.2.2.1, c420.2.2.2.2.2.2.2.2⟩
          obtain ⟨-, -, -, -, -, -, -, -, -, ⟨o422, o423⟩, -, -, -, -, -, -, -, -, -, -, -⟩ := id ho421
          clear hpost hI1 hS ht hWt hk1
          revert hI; generalize H1 = H; generalize locs1 = locs; intro hI
          refine W.widen (k := (59 + 301 * (513 - (n + 1)))) (n := (3561 + 1806 * (513 - (n + 1)))) (by omega) (by omega) ?_
          refine lv_istore (lv' := [(6, .int z418), (5, .int z412), (0, .ref b), (1, .ref (a 0)), (2, .ref (a 200)), (3, .ref (a 35)), (4, .int v23_4)]) hx hb d_La_law_390 hl (by decide) rfl (fun ls hl => ?_)
          refine lv_goto (tgt := 464) hx hb d_La_law_392 (by decide) ?_
          refine W.widen (k := (359 + 301 * (513 - (n + 1)))) (n := (5361 + 1806 * (513 - (n + 1)))) (by omega) (by omega) ?_
          exact j464 _ _ _ t23_he t23_dp t23_co t23_li t23_op t23_wd t23_tl t23_lc t23_fo t_th419 t23_mtr t23_mdp t23_mzi t23_mco t23_msh t23_mlt t23_mts t23_sf t23_lf t23_nf t23_mmf hI ho421 (by omega) (by omega) (lv_sub hl [2, 3, 4, 5, 6] rfl)
        by_cases b424 : z113.toInt = 9
        · refine sn_tin (v := 9) (off := 356) (tgt := 395) hx hb d_La_law_39 b424 (by decide) (by decide) (by decide) (by decide) ?_
          refine lv_aload_n hx hb d_La_law_395 rfl (lv_at hl 1 rfl) ?_
          refine lv_aload_n hx hb d_La_law_396 rfl (lv_at hl 0 rfl) ?_
          refine lv_iload hx hb d_La_law_397 (lv_at hl 4 rfl) ?_
          refine sn_iconst hx hb d_La_law_399 (by decide) (fun z425 hz425 => ?_)
          refine sn_iadd hx hb d_La_law_400 (by omega) (by omega) (fun z426 hz426 => ?_)
          refine va_sld hx hb hX hbl hbA hI.2 (sv_in (by omega) (by omega)) d_La_law_401 ?_
          refine sn_tope (fun z427 hz427 => ?_)
          have hz427x : z427.toInt = (xs (v23_4.toInt + 1).toNat).toInt := by rw [hz427, show z426.toNatClampNeg = (v23_4.toInt + 1).toNat from by rw [← show z426.toInt = v23_4.toInt + 1 by omega]; rfl]
          have hz427r := sn_rng z427
          clear hz427
          refine lv_aload_n hx hb d_La_law_402 rfl (lv_at hl 3 rfl) ?_
          refine tz_call (A1 := ga (adC a) H.size) (tz_runS (As := [.ref (a 0), .int z427, .ref (a 35)]) (rest := []) ⟨hx, hb, hml, hown, hts⟩ (c_La_stack l hfl dC dI cI cJ a H.size t23_he t23_dp t23_co t23_li t23_op t23_wd t23_tl t23_lc t23_fo t23_sf t23_lf t23_nf z427 ⟨hok.1, hok.2.1, hok.2.2.1, hok.2.2.2.1, hok.2.2.2.2.1, hok.2.2.2.2.2.1, hok.2.2.2.2.2.2.1, hok.2.2.2.2.2.2.2.1, hok.2.2.2.2.2.2.2.2.1, hok.2.2.2.2.2.2.2.2.2.2.2.2.2.2.2.2.2.1, hok.2.2.2.2.2.2.2.2.2.2.2.2.2.2.2.2.2.2.1, hok.2.2.2.2.2.2.2.2.2.2.2.2.2.2.2.2.2.2.2.1⟩) (tx_cb (n := 3) hts rfl rfl ⟨Nat.le_of_ble_eq_true rfl, Nat.le_of_ble_eq_true rfl⟩ (tx_code.ofW (hts _ mw_1040)) (hts _ mw_0) (by decide +kernel) (hts _ mw_1038)) (hts _ mw_1039) ⟨tz_blind, fun U hU hW => ⟨rfl, by rw [hU], by rw [hU]; exact (sh_app (s1 := gsC a t23_he t23_dp t23_co t23_li t23_op t23_wd t23_tl t23_lc t23_fo t23_sf t23_lf t23_nf) (s2 := gsM (fun k => a (200 + k)) t23_mth t23_mtr t23_mdp t23_mzi t23_mco t23_msh t23_mlt t23_mts t23_mmf) hI.1).1, va_K.moved hW.alike hK, hstC _ _ hI.2 U hU hW⟩⟩ rfl rfl hl.1 rfl (lv_room (Nat.le_of_ble_eq_true rfl)) d_La_law_403 ⟨by show (58 + 301 * (513 - (n + 1))) + 1 ≤ 601024; omega, by show (3555 + 1806 * (513 - (n + 1))) + 6 ≤ 7293034; omega⟩) hI.2 (fun q _ h => ga_sub hACC hA0 hI.2 q h) (ga_sub hACC hA0 hI.2) (fun v t H1 locs1 ht hWt hpost _ hk1 hS => ?_) (fun x t H1 locs1 ht hWt hpost _ _ hS => (hpost.2 x rfl).elim)
          rcases hpost.1 _ rfl with ⟨z428, hv, c429, c429_0, c429_1, hI1⟩
          cases hv
          have hI : sI (dC, dI) vcl cI cJ (gsB a t23_he t23_dp t23_co t23_li t23_op t23_wd t23_tl t23_lc t23_fo t23_mth t23_mtr t23_mdp t23_mzi t23_mco t23_msh t23_mlt t23_mts t23_sf t23_lf t23_nf t23_mmf) A s.heap H1 locs1 := ⟨sh_callC (s1 := gsC a t23_he t23_dp t23_co t23_li t23_op t23_wd t23_tl t23_lc t23_fo t23_sf t23_lf t23_nf) (s2 := gsM (fun k => a (200 + k)) t23_mth t23_mtr t23_mdp t23_mzi t23_mco t23_msh t23_mlt t23_mts t23_mmf) (s1' := gsC a t23_he t23_dp t23_co t23_li t23_op t23_wd t23_tl t23_lc t23_fo t23_sf t23_lf t23_nf) hI.1 adC_map adC_map hk1 (by rw [← ht]; exact hI1), hS⟩
          have ho430 : okB t23_he t23_dp t23_co t23_li t23_op t23_wd t23_tl t23_lc t23_fo t23_mth t23_mtr t23_mdp t23_mzi t23_mco t23_msh t23_mlt t23_mts t23_sf t23_lf t23_nf t23_mmf := ⟨c429.1, c429.2.1, c429.2.2.1, c429.2.2.2.1, c429.2.2.2.2.1, c429.2.2.2.2.2.1, c429.2.2.2.2.2.2.1, c429.2.2.2.2.2.2.2.1, c429.2.2.2.2.2.2.2.2.1, hok.2.2.2.2.2.2.2.2.2.1, hok.2.2.2.2.2.2.2.2.2.2.1, hok.2.2.2.2.2.2.2.2.2.2.2.1, hok.2.2.2.2.2.2.2.2.2.2.2.2.1, hok.2.2.2.2.2.2.2.2.2.2.2.2.2.1, hok.2.2.2.2.2.2.2.2.2.2.2.2.2.2.1, hok.2.2.2.2.2.2.2.2.2.2.2.2.2.2.2.1, hok.2.2.2.2.2.2.2.2.2.2.2.2.2.2.2.2.1, c429.2.2.2.2.2.2.2.2.2.1, c429.2.2.2.2.2.2.2.2.2.2.1, c429.2.2.2.2.2.2.2.2.2.2.2, hok.2.2.2.2.2.2.2.2.2.2.2.2.2.2.2.2.2.2.2.2⟩
          clear hpost hI1 hS ht hWt hk1
          revert hI; generalize H1 = H; generalize locs1 = locs; intro hI
          refine W.widen (k := (59 + 301 * (513 - (n + 1)))) (n := (3561 + 1806 * (513 - (n + 1)))) (by omega) (by omega) ?_
          refine lv_istore (lv' := [(5, .int z428), (0, .ref b), (1, .ref (a 0)), (2, .ref (a 200)), (3, .ref (a 35)), (4, .int v23_4)]) hx hb d_La_law_406 hl (by decide) rfl (fun ls hl => ?_)
          refine lv_aload_n hx hb d_La_law_408 rfl (lv_at hl 3 rfl) ?_
          refine lv_aload_n hx hb d_La_law_409 rfl (lv_at hl 1 rfl) ?_
          refine lv_iload hx hb d_La_law_410 (lv_at hl 5 rfl) ?_
          refine sn_iconst hx hb d_La_law_412 (by decide) (fun z431 hz431 => ?_)
          refine sn_iadd hx hb d_La_law_413 (by omega) (by omega) (fun z432 hz432 => ?_)
          refine va_sld hx hb hX hbl hbA hI.2 (sv_in (by omega) (by omega)) d_La_law_414 ?_
          refine sn_tope (fun z433 hz433 => ?_)
          have hz433x : z433.toInt = (xs (v23_4.toInt + 1).toNat).toInt := by rw [hz433, show z432.toNatClampNeg = (v23_4.toInt + 1).toNat from by rw [← show z432.toInt = v23_4.toInt + 1 by omega]; rfl]
          have hz433r := sn_rng z433
          clear hz433
          refine tz_call (A1 := ga (adM (fun k => a (200 + k))) H.size) (tz_runV (C := "StoryMachineModel") (As := [.int z433]) (rest := []) ⟨hx, hb, hml, hown, hts⟩ (c_Mo_stack l hfl dC dI cI cJ (fun k => a (200 + k)) H.size t23_mth t23_mtr t23_mdp t23_mzi t23_mco t23_msh t23_mlt t23_mts t23_mmf z433 ⟨ho430.2.2.2.2.2.2.2.2.2.1, ho430.2.2.2.2.2.2.2.2.2.2.1, ho430.2.2.2.2.2.2.2.2.2.2.2.1, ho430.2.2.2.2.2.2.2.2.2.2.2.2.1, ho430.2.2.2.2.2.2.2.2.2.2.2.2.2.1, ho430.2.2.2.2.2.2.2.2.2.2.2.2.2.2.1, ho430.2.2.2.2.2.2.2.2.2.2.2.2.2.2.2.1, ho430.2.2.2.2.2.2.2.2.2.2.2.2.2.2.2.2.1, ho430.2.2.2.2.2.2.2.2.2.2.2.2.2.2.2.2.2.2.2.2⟩) (tx_cb (n := 1) hts rfl rfl ⟨Nat.le_of_ble_eq_true rfl, Nat.le_of_ble_eq_true rfl⟩ (tx_code.of (hts _ mw_1538)) (hts _ mw_12) (by decide +kernel) (hts _ mw_1535)) (hts _ mw_1536) (hts _ mw_1537) ⟨tz_blind, sv_recv (q0 := 0) hts in_Mo hK (show sI (dC, dI) vcl cI cJ _ A s.heap H locs from ⟨(sh_app (s1 := gsC a t23_he t23_dp t23_co t23_li t23_op t23_wd t23_tl t23_lc t23_fo t23_sf t23_lf t23_nf) (s2 := gsM (fun k => a (200 + k)) t23_mth t23_mtr t23_mdp t23_mzi t23_mco t23_msh t23_mlt t23_mts t23_mmf) hI.1).2.1, hI.2⟩) kM_0 rfl, fun U hU hW => ⟨rfl, by rw [hU], by rw [hU]; exact (sh_app (s1 := gsC a t23_he t23_dp t23_co t23_li t23_op t23_wd t23_tl t23_lc t23_fo t23_sf t23_lf t23_nf) (s2 := gsM (fun k => a (200 + k)) t23_mth t23_mtr t23_mdp t23_mzi t23_mco t23_msh t23_mlt t23_mts t23_mmf) hI.1).2.1, va_K.moved hW.alike hK, hstM _ _ hI.2 U hU hW⟩⟩ rfl rfl hl.1 rfl (lv_room (Nat.le_of_ble_eq_true rfl)) d_La_law_415 ⟨by show (59 + 301 * (513 - (n + 1))) + 0 ≤ 601024; omega, by show (3561 + 1806 * (513 - (n + 1))) + 0 ≤ 7293034; omega⟩) hI.2 (fun q _ h => ga_sub hACM hA0 hI.2 q h) (ga_sub hACM hA0 hI.2) (fun v t H1 locs1 ht hWt hpost _ hk1 hS => ?_) (fun x t H1 locs1 ht hWt hpost _ _ hS => (hpost.2 x rfl).elim)
          rcases hpost.1 _ rfl with ⟨z434, t_th435, hv, c436, c436_0, c436_1, c436_2, hI1⟩
          cases hv
          have hI : sI (dC, dI) vcl cI cJ (gsB a t23_he t23_dp t23_co t23_li t23_op t23_wd t23_tl t23_lc t23_fo t_th435 t23_mtr t23_mdp t23_mzi t23_mco t23_msh t23_mlt t23_mts t23_sf t23_lf t23_nf t23_mmf) A s.heap H1 locs1 := ⟨sh_callM (s1 := gsC a t23_he t23_dp t23_co t23_li t23_op t23_wd t23_tl t23_lc t23_fo t23_sf t23_lf t23_nf) (s2 := gsM (fun k => a (200 + k)) t23_mth t23_mtr t23_mdp t23_mzi t23_mco t23_msh t23_mlt t23_mts t23_mmf) (s2' := gsM (fun k => a (200 + k)) t_th435 t23_mtr t23_mdp t23_mzi t23_mco t23_msh t23_mlt t23_mts t23_mmf) hI.1 adM_map adM_map hk1 (by rw [← ht]; exact hI1), hS⟩
          have ho437 : okB t23_he t23_dp t23_co t23_li t23_op t23_wd t23_tl t23_lc t23_fo t_th435 t23_mtr t23_mdp t23_mzi t23_mco t23_msh t23_mlt t23_mts t23_sf t23_lf t23_nf t23_mmf := ⟨ho430.1, ho430.2.1, ho430.2.2.1, ho430.2.2.2.1, ho430.2.2.2.2.1, ho430.2.2.2.2.2.1, ho430.2.2.2.2.2.2.1, ho430.2.2.2.2.2.2.2.1, ho430.2.2.2.2.2.2.2.2.1, c436.1, c436.2.1, c436.2.2.1, c436.2.2.2.1, c436.2.2.2.2.1, c436.2.2.2.2.2.1, c436.2.2.2.2.2.2.1, c436.2.2.2.2.2.2.2.1, ho430.2.2.2.2.2.2.2.2.2.2.2.2.2.2.2.2.2.1, ho430.2.2.2.2.2.2.2.2.2.2.2.2.2.2.2.2.2.2.1, ho430.2.2.2.2.2.2.2.2.2.2.2.2.2.2.2.2.2.2.2.1, c436.2.2.2.2.2.2.2.2⟩
          obtain ⟨-, -, -, -, -, -, -, -, -, ⟨o438, o439⟩, -, -, -, -, -, -, -, -, -, -, -⟩ := id ho437
          clear hpost hI1 hS ht hWt hk1
          revert hI; generalize H1 = H; generalize locs1 = locs; intro hI
          refine W.widen (k := (59 + 301 * (513 - (n + 1)))) (n := (3561 + 1806 * (513 - (n + 1)))) (by omega) (by omega) ?_
          refine lv_istore (lv' := [(6, .int z434), (5, .int z428), (0, .ref b), (1, .ref (a 0)), (2, .ref (a 200)), (3, .ref (a 35)), (4, .int v23_4)]) hx hb d_La_law_418 hl (by decide) rfl (fun ls hl => ?_)
          refine lv_goto (tgt := 464) hx hb d_La_law_420 (by decide) ?_
          refine W.widen (k := (359 + 301 * (513 - (n + 1)))) (n := (5361 + 1806 * (513 - (n + 1)))) (by omega) (by omega) ?_
          exact j464 _ _ _ t23_he t23_dp t23_co t23_li t23_op t23_wd t23_tl t23_lc t23_fo t_th435 t23_mtr t23_mdp t23_mzi t23_mco t23_msh t23_mlt t23_mts t23_sf t23_lf t23_nf t23_mmf hI ho437 (by omega) (by omega) (lv_sub hl [2, 3, 4, 5, 6] rfl)
        by_cases b440 : z113.toInt = 10
        · refine sn_tin (v := 10) (off := 384) (tgt := 423) hx hb d_La_law_39 b440 (by decide) (by decide) (by decide) (by decide) ?_
          refine lv_aload_n hx hb d_La_law_423 rfl (lv_at hl 1 rfl) ?_
          refine lv_aload_n hx hb d_La_law_424 rfl (lv_at hl 0 rfl) ?_
          refine lv_iload hx hb d_La_law_425 (lv_at hl 4 rfl) ?_
          refine sn_iconst hx hb d_La_law_427 (by decide) (fun z441 hz441 => ?_)
          refine sn_iadd hx hb d_La_law_428 (by omega) (by omega) (fun z442 hz442 => ?_)
          refine va_sld hx hb hX hbl hbA hI.2 (sv_in (by omega) (by omega)) d_La_law_429 ?_
          refine sn_tope (fun z443 hz443 => ?_)
          have hz443x : z443.toInt = (xs (v23_4.toInt + 1).toNat).toInt := by rw [hz443, show z442.toNatClampNeg = (v23_4.toInt + 1).toNat from by rw [← show z442.toInt = v23_4.toInt + 1 by omega]; rfl]
          have hz443r := sn_rng z443
          clear hz443
          refine lv_aload_n hx hb d_La_law_430 rfl (lv_at hl 3 rfl) ?_
          refine tz_call (A1 := ga (adC a) H.size) (tz_runS (As := [.ref (a 0), .int z443, .ref (a 35)]) (rest := []) ⟨hx, hb, hml, hown, hts⟩ (c_La_local l hfl dC dI cI cJ a H.size t23_he t23_dp t23_co t23_li t23_op t23_wd t23_tl t23_lc t23_fo t23_sf t23_lf t23_nf z443 ⟨hok.1, hok.2.1, hok.2.2.1, hok.2.2.2.1, hok.2.2.2.2.1, hok.2.2.2.2.2.1, hok.2.2.2.2.2.2.1, hok.2.2.2.2.2.2.2.1, hok.2.2.2.2.2.2.2.2.1, hok.2.2.2.2.2.2.2.2.2.2.2.2.2.2.2.2.2.1, hok.2.2.2.2.2.2.2.2.2.2.2.2.2.2.2.2.2.2.1, hok.2.2.2.2.2.2.2.2.2.2.2.2.2.2.2.2.2.2.2.1⟩) (tx_cb (n := 3) hts rfl rfl ⟨Nat.le_of_ble_eq_true rfl, Nat.le_of_ble_eq_true rfl⟩ (tx_code.ofW (hts _ mw_1047)) (hts _ mw_0) (by decide +kernel) (hts _ mw_1045)) (hts _ mw_1046) ⟨tz_blind, fun U hU hW => ⟨rfl, by rw [hU], by rw [hU]; exact (sh_app (s1 := gsC a t23_he t23_dp t23_co t23_li t23_op t23_wd t23_tl t23_lc t23_fo t23_sf t23_lf t23_nf) (s2 := gsM (fun k => a (200 + k)) t23_mth t23_mtr t23_mdp t23_mzi t23_mco t23_msh t23_mlt t23_mts t23_mmf) hI.1).1, va_K.moved hW.alike hK, hstC _ _ hI.2 U hU hW⟩⟩ rfl rfl hl.1 rfl (lv_room (Nat.le_of_ble_eq_true rfl)) d_La_law_431 ⟨by show (58 + 301 * (513 - (n + 1))) + 1 ≤ 601024; omega, by show (3555 + 1806 * (513 - (n + 1))) + 6 ≤ 7293034; omega⟩) hI.2 (fun q _ h => ga_sub hACC hA0 hI.2 q h) (ga_sub hACC hA0 hI.2) (fun v t H1 locs1 ht hWt hpost _ hk1 hS => ?_) (fun x t H1 locs1 ht hWt hpost _ _ hS => (hpost.2 x rfl).elim)
          rcases hpost.1 _ rfl with ⟨z444, hv, c445, c445_0, c445_1, hI1⟩
          cases hv
          have hI : sI (dC, dI) vcl cI cJ (gsB a t23_he t23_dp t23_co t23_li t23_op t23_wd t23_tl t23_lc t23_fo t23_mth t23_mtr t23_mdp t23_mzi t23_mco t23_msh t23_mlt t23_mts t23_sf t23_lf t23_nf t23_mmf) A s.heap H1 locs1 := ⟨sh_callC (s1 := gsC a t23_he t23_dp t23_co t23_li t23_op t23_wd t23_tl t23_lc t23_fo t23_sf t23_lf t23_nf) (s2 := gsM (fun k => a (200 + k)) t23_mth t23_mtr t23_mdp t23_mzi t23_mco t23_msh t23_mlt t23_mts t23_mmf) (s1' := gsC a t23_he t23_dp t23_co t23_li t23_op t23_wd t23_tl t23_lc t23_fo t23_sf t23_lf t23_nf) hI.1 adC_map adC_map hk1 (by rw [← ht]; exact hI1), hS⟩
          have ho446 : okB t23_he t23_dp t23_co t23_li t23_op t23_wd t23_tl t23_lc t23_fo t23_mth t23_mtr t23_mdp t23_mzi t23_mco t23_msh t23_mlt t23_mts t23_sf t23_lf t23_nf t23_mmf := ⟨c445.1, c445.2.1, c445.2.2.1, c445.2.2.2.1, c445.2.2.2.2.1, c445.2.2.2.2.2.1, c445.2.2.2.2.2.2.1, c445.2.2.2.2.2.2.2.1, c445.2.2.2.2.2.2.2.2.1, hok.2.2.2.2.2.2.2.2.2.1, hok.2.2.2.2.2.2.2.2.2.2.1, hok.2.2.2.2.2.2.2.2.2.2.2.1, hok.2.2.2.2.2.2.2.2.2.2.2.2.1, hok.2.2.2.2.2.2.2.2.2.2.2.2.2.1, hok.2.2.2.2.2.2.2.2.2.2.2.2.2.2.1, hok.2.2.2.2.2.2.2.2.2.2.2.2.2.2.2.1, hok.2.2.2.2.2.2.2.2.2.2.2.2.2.2.2.2.1, c445.2.2.2.2.2.2.2.2.2.1, c445.2.2.2.2.2.2.2.2.2.2.1, c445.2.2.2.2.2.2.2.2.2.2.2, hok.2.2.2.2.2.2.2.2.2.2.2.2.2.2.2.2.2.2.2.2⟩
          clear hpost hI1 hS ht hWt hk1
          revert hI; generalize H1 = H; generalize locs1 = locs; intro hI
          refine W.widen (k := (59 + 301 * (513 - (n + 1)))) (n := (3561 + 1806 * (513 - (n + 1)))) (by omega) (by omega) ?_
          refine lv_istore (lv' := [(5, .int z444), (0, .ref b), (1, .ref (a 0)), (2, .ref (a 200)), (3, .ref (a 35)), (4, .int v23_4)]) hx hb d_La_law_434 hl (by decide) rfl (fun ls hl => ?_)
          refine lv_aload_n hx hb d_La_law_436 rfl (lv_at hl 3 rfl) ?_
          refine lv_aload_n hx hb d_La_law_437 rfl (lv_at hl 1 rfl) ?_
          refine lv_iload hx hb d_La_law_438 (lv_at hl 5 rfl) ?_
          refine sn_iconst hx hb d_La_law_440 (by decide) (fun z447 hz447 => ?_)
          refine sn_iadd hx hb d_La_law_441 (by omega) (by omega) (fun z448 hz448 => ?_)
          refine va_sld hx hb hX hbl hbA hI.2 (sv_in (by omega) (by omega)) d_La_law_442 ?_
          refine sn_tope (fun z449 hz449 => ?_)
          have hz449x : z449.toInt = (xs (v23_4.toInt + 1).toNat).toInt := by rw [hz449, show z448.toNatClampNeg = (v23_4.toInt + 1).toNat from by rw [← show z448.toInt = v23_4.toInt + 1 by omega]; rfl]
          have hz449r := sn_rng z449
          clear hz449
          refine tz_call (A1 := ga (adM (fun k => a (200 + k))) H.size) (tz_runV (C := "StoryMachineModel") (As := [.int z449]) (rest := []) ⟨hx, hb, hml, hown, hts⟩ (c_Mo_local l hfl dC dI cI cJ (fun k => a (200 + k)) H.size t23_mth t23_mtr t23_mdp t23_mzi t23_mco t23_msh t23_mlt t23_mts t23_mmf z449 ⟨ho446.2.2.2.2.2.2.2.2.2.1, ho446.2.2.2.2.2.2.2.2.2.2.1, ho446.2.2.2.2.2.2.2.2.2.2.2.1, ho446.2.2.2.2.2.2.2.2.2.2.2.2.1, ho446.2.2.2.2.2.2.2.2.2.2.2.2.2.1, ho446.2.2.2.2.2.2.2.2.2.2.2.2.2.2.1, ho446.2.2.2.2.2.2.2.2.2.2.2.2.2.2.2.1, ho446.2.2.2.2.2.2.2.2.2.2.2.2.2.2.2.2.1, ho446.2.2.2.2.2.2.2.2.2.2.2.2.2.2.2.2.2.2.2.2⟩) (tx_cb (n := 1) hts rfl rfl ⟨Nat.le_of_ble_eq_true rfl, Nat.le_of_ble_eq_true rfl⟩ (tx_code.of (hts _ mw_1542)) (hts _ mw_12) (by decide +kernel) (hts _ mw_1539)) (hts _ mw_1540) (hts _ mw_1541) ⟨tz_blind, sv_recv (q0 := 0) hts in_Mo hK (show sI (dC, dI) vcl cI cJ _ A s.heap H locs from ⟨(sh_app (s1 := gsC a t23_he t23_dp t23_co t23_li t23_op t23_wd t23_tl t23_lc t23_fo t23_sf t23_lf t23_nf) (s2 := gsM (fun k => a (200 + k)) t23_mth t23_mtr t23_mdp t23_mzi t23_mco t23_msh t23_mlt t23_mts t23_mmf) hI.1).2.1, hI.2⟩) kM_0 rfl, fun U hU hW => ⟨rfl, by rw [hU], by rw [hU]; exact (sh_app (s1 := gsC a t23_he t23_dp t23_co t23_li t23_op t23_wd t23_tl t23_lc t23_fo t23_sf t23_lf t23_nf) (s2 := gsM (fun k => a (200 + k)) t23_mth t23_mtr t23_mdp t23_mzi t23_mco t23_msh t23_mlt t23_mts t23_mmf) hI.1).2.1, va_K.moved hW.alike hK, hstM _ _ hI.2 U hU hW⟩⟩ rfl rfl hl.1 rfl (lv_room (Nat.le_of_ble_eq_true rfl)) d_La_law_443 ⟨by show (59 + 301 * (513 - (n + 1))) + 0 ≤ 601024; omega, by show (3561 + 1806 * (513 - (n + 1))) + 0 ≤ 7293034; omega⟩) hI.2 (fun q _ h => ga_sub hACM hA0 hI.2 q h) (ga_sub hACM hA0 hI.2) (fun v t H1 locs1 ht hWt hpost _ hk1 hS => ?_) (fun x t H1 locs1 ht hWt hpost _ _ hS => (hpost.2 x rfl).elim)
          rcases hpost.1 _ rfl with ⟨z450, t_th451, hv, c452, c452_0, c452_1, c452_2, hI1⟩
          cases hv
          have hI : sI (dC, dI) vcl cI cJ (gsB a t23_he t23_dp t23_co t23_li t23_op t23_wd t23_tl t23_lc t23_fo t_th451 t23_mtr t23_mdp t23_mzi t23_mco t23_msh t23_mlt t23_mts t23_sf t23_lf t23_nf t23_mmf) A s.heap H1 locs1 := ⟨sh_callM (s1 := gsC a t23_he t23_dp t23_co t23_li t23_op t23_wd t23_tl t23_lc t23_fo t23_sf t23_lf t23_nf) (s2 := gsM (fun k => a (200 + k)) t23_mth t23_mtr t23_mdp t23_mzi t23_mco t23_msh t23_mlt t23_mts t23_mmf) (s2' := gsM (fun k => a (200 + k)) t_th451 t23_mtr t23_mdp t23_mzi t23_mco t23_msh t23_mlt t23_mts t23_mmf) hI.1 adM_map adM_map hk1 (by rw [← ht]; exact hI1), hS⟩
          have ho453 : okB t23_he t23_dp t23_co t23_li t23_op t23_wd t23_tl t23_lc t23_fo t_th451 t23_mtr t23_mdp t23_mzi t23_mco t23_msh t23_mlt t23_mts t23_sf t23_lf t23_nf t23_mmf := ⟨ho446.1, ho446.2.1, ho446.2.2.1, ho446.2.2.2.1, ho446.2.2.2.2.1, ho446.2.2.2.2.2.1, ho446.2.2.2.2.2.2.1, ho446.2.2.2.2.2.2.2.1, ho446.2.2.2.2.2.2.2.2.1, c452.1, c452.2.1, c452.2.2.1, c452.2.2.2.1, c452.2.2.2.2.1, c452.2.2.2.2.2.1, c452.2.2.2.2.2.2.1, c452.2.2.2.2.2.2.2.1, ho446.2.2.2.2.2.2.2.2.2.2.2.2.2.2.2.2.2.1, ho446.2.2.2.2.2.2.2.2.2.2.2.2.2.2.2.2.2.2.1, ho446.2.2.2.2.2.2.2.2.2.2.2.2.2.2.2.2.2.2.2.1, c452.2.2.2.2.2.2.2.2⟩
          obtain ⟨-, -, -, -, -, -, -, -, -, ⟨o454, o455⟩, -, -, -, -, -, -, -, -, -, -, -⟩ := id ho453
          clear hpost hI1 hS ht hWt hk1
          revert hI; generalize H1 = H; generalize locs1 = locs; intro hI
          refine W.widen (k := (59 + 301 * (513 - (n + 1)))) (n := (3561 + 1806 * (513 - (n + 1)))) (by omega) (by omega) ?_
          refine lv_istore (lv' := [(6, .int z450), (5, .int z444), (0, .ref b), (1, .ref (a 0)), (2, .ref (a 200)), (3, .ref (a 35)), (4, .int v23_4)]) hx hb d_La_law_446 hl (by decide) rfl (fun ls hl => ?_)
          refine lv_goto (tgt := 464) hx hb d_La_law_448 (by decide) ?_
          refine W.widen (k := (359 + 301 * (513 - (n + 1)))) (n := (5361 + 1806 * (513 - (n + 1)))) (by omega) (by omega) ?_
          exact j464 _ _ _ t23_he t23_dp t23_co t23_li t23_op t23_wd t23_tl t23_lc t23_fo t_th451 t23_mtr t23_mdp t23_mzi t23_mco t23_msh t23_mlt t23_mts t23_sf t23_lf t23_nf t23_mmf hI ho453 (by omega) (by omega) (lv_sub hl [2, 3, 4, 5, 6] rfl)
        by_cases b456 : z113.toInt = 11
        · refine sn_tin (v := 11) (off := 412) (tgt := 451) hx hb d_La_law_39 b456 (by decide) (by decide) (by decide) (by decide) ?_
          refine lv_aload_n hx hb d_La_law_451 rfl (lv_at hl 1 rfl) ?_
          refine tz_call (A1 := ga (adC a) H.size) (tz_runV (C := "StoryMachine") (As := []) (rest := []) ⟨hx, hb, hml, hown, hts⟩ (c_SM_routines l hfl dC dI cI cJ a H.size t23_he t23_dp t23_co t23_li t23_op t23_wd t23_tl t23_lc t23_fo t23_sf t23_lf t23_nf  ⟨hok.1, hok.2.1, hok.2.2.1, hok.2.2.2.1, hok.2.2.2.2.1, hok.2.2.2.2.2.1, hok.2.2.2.2.2.2.1, hok.2.2.2.2.2.2.2.1, hok.2.2.2.2.2.2.2.2.1, hok.2.2.2.2.2.2.2.2.2.2.2.2.2.2.2.2.2.1, hok.2.2.2.2.2.2.2.2.2.2.2.2.2.2.2.2.2.2.1, hok.2.2.2.2.2.2.2.2.2.2.2.2.2.2.2.2.2.2.2.1⟩) (tx_cb (n := 0) hts rfl rfl ⟨Nat.le_of_ble_eq_true rfl, Nat.le_of_ble_eq_true rfl⟩ (tx_code.of (hts _ mw_345)) (hts _ mw_1) (by decide +kernel) (hts _ mw_342)) (hts _ mw_343) (hts _ mw_344) ⟨tz_blind, sv_recv (q0 := 0) hts in_SM hK (show sI (dC, dI) vcl cI cJ _ A s.heap H locs from ⟨(sh_app (s1 := gsC a t23_he t23_dp t23_co t23_li t23_op t23_wd t23_tl t23_lc t23_fo t23_sf t23_lf t23_nf) (s2 := gsM (fun k => a (200 + k)) t23_mth t23_mtr t23_mdp t23_mzi t23_mco t23_msh t23_mlt t23_mts t23_mmf) hI.1).1, hI.2⟩) kC_0 rfl, fun U hU hW => ⟨rfl, by rw [hU], by rw [hU]; exact (sh_app (s1 := gsC a t23_he t23_dp t23_co t23_li t23_op t23_wd t23_tl t23_lc t23_fo t23_sf t23_lf t23_nf) (s2 := gsM (fun k => a (200 + k)) t23_mth t23_mtr t23_mdp t23_mzi t23_mco t23_msh t23_mlt t23_mts t23_mmf) hI.1).1, va_K.moved hW.alike hK, hstC _ _ hI.2 U hU hW⟩⟩ rfl rfl hl.1 rfl (lv_room (Nat.le_of_ble_eq_true rfl)) d_La_law_452 ⟨by show (58 + 301 * (513 - (n + 1))) + 0 ≤ 601024; omega, by show (3555 + 1806 * (513 - (n + 1))) + 0 ≤ 7293034; omega⟩) hI.2 (fun q _ h => ga_sub hACC hA0 hI.2 q h) (ga_sub hACC hA0 hI.2) (fun v t H1 locs1 ht hWt hpost _ hk1 hS => ?_) (fun x t H1 locs1 ht hWt hpost _ _ hS => (hpost.2 x rfl).elim)
          rcases hpost.1 _ rfl with ⟨z457, hv, c458, c458_0, c458_1, hI1⟩
          cases hv
          have hI : sI (dC, dI) vcl cI cJ (gsB a t23_he t23_dp t23_co t23_li t23_op t23_wd t23_tl t23_lc t23_fo t23_mth t23_mtr t23_mdp t23_mzi t23_mco t23_msh t23_mlt t23_mts t23_sf t23_lf t23_nf t23_mmf) A s.heap H1 locs1 := ⟨sh_callC (s1 := gsC a t23_he t23_dp t23_co t23_li t23_op t23_wd t23_tl t23_lc t23_fo t23_sf t23_lf t23_nf) (s2 := gsM (fun k => a (200 + k)) t23_mth t23_mtr t23_mdp t23_mzi t23_mco t23_msh t23_mlt t23_mts t23_mmf) (s1' := gsC a t23_he t23_dp t23_co t23_li t23_op t23_wd t23_tl t23_lc t23_fo t23_sf t23_lf t23_nf) hI.1 adC_map adC_map hk1 (by rw [← ht]; exact hI1), hS⟩
          have ho459 : okB t23_he t23_dp t23_co t23_li t23_op t23_wd t23_tl t23_lc t23_fo t23_mth t23_mtr t23_mdp t23_mzi t23_mco t23_msh t23_mlt t23_mts t23_sf t23_lf t23_nf t23_mmf := ⟨c458.1, c458.2.1, c458.2.2.1, c458.2.2.2.1, c458.2.2.2.2.1, c458.2.2.2.2.2.1, c458.2.2.2.2.2.2.1, c458.2.2.2.2.2.2.2.1, c458.2.2.2.2.2.2.2.2.1, hok.2.2.2.2.2.2.2.2.2.1, hok.2.2.2.2.2.2.2.2.2.2.1, hok.2.2.2.2.2.2.2.2.2.2.2.1, hok.2.2.2.2.2.2.2.2.2.2.2.2.1, hok.2.2.2.2.2.2.2.2.2.2.2.2.2.1, hok.2.2.2.2.2.2.2.2.2.2.2.2.2.2.1, hok.2.2.2.2.2.2.2.2.2.2.2.2.2.2.2.1, hok.2.2.2.2.2.2.2.2.2.2.2.2.2.2.2.2.1, c458.2.2.2.2.2.2.2.2.2.1, c458.2.2.2.2.2.2.2.2.2.2.1, c458.2.2.2.2.2.2.2.2.2.2.2, hok.2.2.2.2.2.2.2.2.2.2.2.2.2.2.2.2.2.2.2.2⟩
          clear hpost hI1 hS ht hWt hk1
          revert hI; generalize H1 = H; generalize locs1 = locs; intro hI
          refine W.widen (k := (58 + 301 * (513 - (n + 1)))) (n := (3555 + 1806 * (513 - (n + 1)))) (by omega) (by omega) ?_
          refine lv_pop hx hb d_La_law_455 rfl ?_
          refine lv_aload_n hx hb d_La_law_456 rfl (lv_at hl 2 rfl) ?_
          refine tz_call (A1 := ga (adM (fun k => a (200 + k))) H.size) (tz_runV (C := "StoryMachineModel") (As := []) (rest := []) ⟨hx, hb, hml, hown, hts⟩ (c_Mo_routines l hfl dC dI cI cJ (fun k => a (200 + k)) H.size t23_mth t23_mtr t23_mdp t23_mzi t23_mco t23_msh t23_mlt t23_mts t23_mmf  ⟨ho459.2.2.2.2.2.2.2.2.2.1, ho459.2.2.2.2.2.2.2.2.2.2.1, ho459.2.2.2.2.2.2.2.2.2.2.2.1, ho459.2.2.2.2.2.2.2.2.2.2.2.2.1, ho459.2.2.2.2.2.2.2.2.2.2.2.2.2.1, ho459.2.2.2.2.2.2.2.2.2.2.2.2.2.2.1, ho459.2.2.2.2.2.2.2.2.2.2.2.2.2.2.2.1, ho459.2.2.2.2.2.2.2.2.2.2.2.2.2.2.2.2.1, ho459.2.2.2.2.2.2.2.2.2.2.2.2.2.2.2.2.2.2.2.2⟩) (tx_cb (n := 0) hts rfl rfl ⟨Nat.le_of_ble_eq_true rfl, Nat.le_of_ble_eq_true rfl⟩ (tx_code.of (hts _ mw_1546)) (hts _ mw_12) (by decide +kernel) (hts _ mw_1543)) (hts _ mw_1544) (hts _ mw_1545) ⟨tz_blind, sv_recv (q0 := 0) hts in_Mo hK (show sI (dC, dI) vcl cI cJ _ A s.heap H locs from ⟨(sh_app (s1 := gsC a t23_he t23_dp t23_co t23_li t23_op t23_wd t23_tl t23_lc t23_fo t23_sf t23_lf t23_nf) (s2 := gsM (fun k => a (200 + k)) t23_mth t23_mtr t23_mdp t23_mzi t23_mco t23_msh t23_mlt t23_mts t23_mmf) hI.1).2.1, hI.2⟩) kM_0 rfl, fun U hU hW => ⟨rfl, by rw [hU], by rw [hU]; exact (sh_app (s1 := gsC a t23_he t23_dp t23_co t23_li t23_op t23_wd t23_tl t23_lc t23_fo t23_sf t23_lf t23_nf) (s2 := gsM (fun k => a (200 + k)) t23_mth t23_mtr t23_mdp t23_mzi t23_mco t23_msh t23_mlt t23_mts t23_mmf) hI.1).2.1, va_K.moved hW.alike hK, hstM _ _ hI.2 U hU hW⟩⟩ rfl rfl hl.1 rfl (lv_room (Nat.le_of_ble_eq_true rfl)) d_La_law_457 ⟨by show (58 + 301 * (513 - (n + 1))) + 0 ≤ 601024; omega, by show (3555 + 1806 * (513 - (n + 1))) + 0 ≤ 7293034; omega⟩) hI.2 (fun q _ h => ga_sub hACM hA0 hI.2 q h) (ga_sub hACM hA0 hI.2) (fun v t H1 locs1 ht hWt hpost _ hk1 hS => ?_) (fun x t H1 locs1 ht hWt hpost _ _ hS => (hpost.2 x rfl).elim)
          rcases hpost.1 _ rfl with ⟨z460, t_th461, hv, c462, c462_0, c462_1, c462_2, hI1⟩
          cases hv
          have hI : sI (dC, dI) vcl cI cJ (gsB a t23_he t23_dp t23_co t23_li t23_op t23_wd t23_tl t23_lc t23_fo t_th461 t23_mtr t23_mdp t23_mzi t23_mco t23_msh t23_mlt t23_mts t23_sf t23_lf t23_nf t23_mmf) A s.heap H1 locs1 := ⟨sh_callM (s1 := gsC a t23_he t23_dp t23_co t23_li t23_op t23_wd t23_tl t23_lc t23_fo t23_sf t23_lf t23_nf) (s2 := gsM (fun k => a (200 + k)) t23_mth t23_mtr t23_mdp t23_mzi t23_mco t23_msh t23_mlt t23_mts t23_mmf) (s2' := gsM (fun k => a (200 + k)) t_th461 t23_mtr t23_mdp t23_mzi t23_mco t23_msh t23_mlt t23_mts t23_mmf) hI.1 adM_map adM_map hk1 (by rw [← ht]; exact hI1), hS⟩
          have ho463 : okB t23_he t23_dp t23_co t23_li t23_op t23_wd t23_tl t23_lc t23_fo t_th461 t23_mtr t23_mdp t23_mzi t23_mco t23_msh t23_mlt t23_mts t23_sf t23_lf t23_nf t23_mmf := ⟨ho459.1, ho459.2.1, ho459.2.2.1, ho459.2.2.2.1, ho459.2.2.2.2.1, ho459.2.2.2.2.2.1, ho459.2.2.2.2.2.2.1, ho459.2.2.2.2.2.2.2.1, ho459.2.2.2.2.2.2.2.2.1, c462.1, c462.2.1, c462.2.2.1, c462.2.2.2.1, c462.2.2.2.2.1, c462.2.2.2.2.2.1, c462.2.2.2.2.2.2.1, c462.2.2.2.2.2.2.2.1, ho459.2.2.2.2.2.2.2.2.2.2.2.2.2.2.2.2.2.1, ho459.2.2.2.2.2.2.2.2.2.2.2.2.2.2.2.2.2.2.1, ho459.2.2.2.2.2.2.2.2.2.2.2.2.2.2.2.2.2.2.2.1, c462.2.2.2.2.2.2.2.2⟩
          obtain ⟨-, -, -, -, -, -, -, -, -, ⟨o464, o465⟩, -, -, -, -, -, -, -, -, -, -, -⟩ := id ho463
          clear hpost hI1 hS ht hWt hk1
          revert hI; generalize H1 = H; generalize locs1 = locs; intro hI
          refine W.widen (k := (58 + 301 * (513 - (n + 1)))) (n := (3555 + 1806 * (513 - (n + 1)))) (by omega) (by omega) ?_
          refine lv_pop hx hb d_La_law_460 rfl ?_
          refine lv_goto (tgt := 464) hx hb d_La_law_461 (by decide) ?_
          refine W.widen (k := (359 + 301 * (513 - (n + 1)))) (n := (5361 + 1806 * (513 - (n + 1)))) (by omega) (by omega) ?_
          exact j464 _ _ _ t23_he t23_dp t23_co t23_li t23_op t23_wd t23_tl t23_lc t23_fo t_th461 t23_mtr t23_mdp t23_mzi t23_mco t23_msh t23_mlt t23_mts t23_sf t23_lf t23_nf t23_mmf hI ho463 (by omega) (by omega) (lv_sub hl [0, 1, 2, 3, 4] rfl)
        exact lv_tableOut (tgt := 464) hx hb d_La_law_39 (by omega) (by decide) w114
  exact j23
