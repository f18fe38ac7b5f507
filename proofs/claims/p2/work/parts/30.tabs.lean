/-! Tables and the one String: what a method reads of them. -/
theorem sn_char {x : Int32} (h1 : 0 ≤ x.toInt) (h2 : x.toInt ≤ 65535) : narrow .char (.int x) = .int x := by
  obtain ⟨j, hj, rfl, e⟩ := sn_of h1
  have h3 : (nI j).toBitVec.toNat = j := pk_tn (by omega)
  have h4 : (nI j).toUInt32.toUInt16.toUInt32.toInt32 = nI j := by
    apply Int32.toBitVec_inj.mp
    apply BitVec.eq_of_toNat_eq
    show (BitVec.setWidth 32 (BitVec.setWidth 16 (nI j).toBitVec)).toNat = _
    rw [BitVec.toNat_setWidth, BitVec.toNat_setWidth, h3]
    omega
  show Value.int ((nI j).toUInt32.toUInt16.toUInt32.toInt32) = _
  rw [h4]
theorem sn_b8 (x : Int32) : -128 ≤ (x.toInt8.toInt32).toInt ∧ (x.toInt8.toInt32).toInt ≤ 127 := by
  have e1 : (x.toInt8.toInt32).toInt = x.toInt8.toInt := Int8.toInt_toInt32 _
  rw [e1]
  have h1 := Int8.le_toInt x.toInt8
  have h2 := Int8.toInt_lt x.toInt8
  exact ⟨by omega, by omega⟩
theorem sn_byte {x : Int32} (h1 : -128 ≤ x.toInt) (h2 : x.toInt ≤ 127) : narrow .byte (.int x) = .int x := by
  have h3 : x.toInt8.toInt32 = x := sn_lit (by rw [Int8.toInt_toInt32, Int32.toInt_toInt8, Int.bmod_eq_of_le (by omega) (by omega)])
  show Value.int (x.toInt8.toInt32) = _
  rw [h3]
section SB
variable {p : Program} {l : Launch} {e : Env} {R : Room} {s : State} {m : MethodId} {args : Array Value} {below : List Frame} {meth : Method} {c : Code} {H : Heap} {locs : List Loc} {cells slots : Nat} {Q : State → Prop} {A : Nat → Prop} {cc : ByteArray} {pc : Nat} {ls : Array Slot} {rest : List Value} {a : Nat → Nat} {ad : List Nat}
theorem sb_gets (hexec : p.tables.exec = Jvm.exec) (hb : c.code = cc) (hz : zS a ad s) (hA : A = ga ad s.heap.size) (hS : va_S A s.heap H locs) (k : Nat) (hk : k < 5) {own : String} {index : Nat} (hown : s.vm.findClass own = some m.cls) (hlink : (Cond.fieldLink own index "StoryMachine$Instruction" (zN k) "[I").before args s = true) (hdg : decode cc pc = .ok (.getstatic index, 3))
    (kk : W p l e R s m args below meth c H locs cells slots Q (F0 m (pc + 3) ls (.ref (a (100 + k)) :: rest))) : W p l e R s m args below meth c H locs cells slots Q (F0 m pc ls rest) := by
  subst hA
  exact va_gets hexec hb (zw_Z (hz.2.1 k hk).1) hS hown hlink (fun _ h => h) hdg kk
theorem sb_iald (hexec : p.tables.exec = Jvm.exec) (hb : c.code = cc) (hz : zS a ad s) (hA : A = ga ad s.heap.size) (hS : va_S A s.heap H locs) (k : Nat) (hk : k < 5) {N : Nat} (hN : zL k = N) {i : Int32} (h1 : 0 ≤ i.toInt) (h2 : i.toInt < N) (hdg : decode cc pc = .ok (.iaload, 1))
    (kk : ∀ x : Int32, 0 ≤ x.toInt → x.toInt ≤ 7 → W p l e R s m args below meth c H locs cells slots Q (F0 m (pc + 1) ls (.int x :: rest))) : W p l e R s m args below meth c H locs cells slots Q (F0 m pc ls (.int i :: .ref (a (100 + k)) :: rest)) := by
  subst hA
  subst hN
  obtain ⟨f, hf, hT⟩ := (hz.2.1 k hk).2
  exact va_ti hexec hb (zw_T hT) hS (sv_in h1 h2) rfl hdg (kk _ (hf _).1 (hf _).2)
theorem sb_alen (hexec : p.tables.exec = Jvm.exec) (hb : c.code = cc) (hz : zS a ad s) (hA : A = ga ad s.heap.size) (hS : va_S A s.heap H locs) (k : Nat) (hk : k < 5) {N : Nat} (hN : zL k = N) (hn : (Int32.ofNat N).toInt = N) (hdg : decode cc pc = .ok (.arraylength, 1))
    (kk : ∀ x : Int32, x.toInt = N → W p l e R s m args below meth c H locs cells slots Q (F0 m (pc + 1) ls (.int x :: rest))) : W p l e R s m args below meth c H locs cells slots Q (F0 m pc ls (.ref (a (100 + k)) :: rest)) := by
  subst hA
  subst hN
  obtain ⟨f, hf, hT⟩ := (hz.2.1 k hk).2
  exact va_tlen hexec hb (zw_T hT) hS rfl hdg (kk _ hn)
theorem sb_bald (hexec : p.tables.exec = Jvm.exec) (hb : c.code = cc) (hz : zS a ad s) (hA : A = ga ad s.heap.size) (hS : va_S A s.heap H locs) {i : Int32} (h1 : 0 ≤ i.toInt) (h2 : i.toInt < 24) (hdg : decode cc pc = .ok (.baload, 1))
    (kk : ∀ x : Int32, -2147483648 ≤ x.toInt → x.toInt ≤ 2147483647 → W p l e R s m args below meth c H locs cells slots Q (F0 m (pc + 1) ls (.int x :: rest))) : W p l e R s m args below meth c H locs cells slots Q (F0 m pc ls (.int i :: .ref (a 106) :: rest)) := by
  subst hA
  obtain ⟨f, hT⟩ := hz.2.2.1.2.2.2
  exact va_tb hexec hb (zw_T hT) hS (sv_in (n := 24) h1 h2) rfl hdg (kk _ (sn_rng _).1 (sn_rng _).2)
theorem sb_blen (hexec : p.tables.exec = Jvm.exec) (hb : c.code = cc) (hz : zS a ad s) (hA : A = ga ad s.heap.size) (hS : va_S A s.heap H locs) (hdg : decode cc pc = .ok (.arraylength, 1))
    (kk : ∀ x : Int32, x.toInt = 24 → W p l e R s m args below meth c H locs cells slots Q (F0 m (pc + 1) ls (.int x :: rest))) : W p l e R s m args below meth c H locs cells slots Q (F0 m pc ls (.ref (a 106) :: rest)) := by
  subst hA
  obtain ⟨f, hT⟩ := hz.2.2.1.2.2.2
  exact va_tlen hexec hb (zw_T hT) hS rfl hdg (kk _ (by decide))
theorem sb_coder (hexec : p.tables.exec = Jvm.exec) (hb : c.code = cc) (hz : zS a ad s) (hA : A = ga ad s.heap.size) (hS : va_S A s.heap H locs) {own : String} {index : Nat} (hown : s.vm.findClass own = some m.cls) (hlink : (Cond.fieldLink own index "java/lang/String" "coder" "B").before args s = true) (hdg : decode cc pc = .ok (.getfield index, 3))
    (kk : ∀ x : Int32, x.toInt = 0 → W p l e R s m args below meth c H locs cells slots Q (F0 m (pc + 3) ls (.int x :: rest))) : W p l e R s m args below meth c H locs cells slots Q (F0 m pc ls (.ref (a 105) :: rest)) := by
  subst hA
  exact vk_getf hexec hb (zw_OF hz.2.2.1.2.1) hS hown hlink (fun _ h => h) hdg (kk 0 rfl)
theorem sb_value (hexec : p.tables.exec = Jvm.exec) (hb : c.code = cc) (hz : zS a ad s) (hA : A = ga ad s.heap.size) (hS : va_S A s.heap H locs) {own : String} {index : Nat} (hown : s.vm.findClass own = some m.cls) (hlink : (Cond.fieldLink own index "java/lang/String" "value" "[B").before args s = true) (hdg : decode cc pc = .ok (.getfield index, 3))
    (kk : W p l e R s m args below meth c H locs cells slots Q (F0 m (pc + 3) ls (.ref (a 106) :: rest))) : W p l e R s m args below meth c H locs cells slots Q (F0 m pc ls (.ref (a 105) :: rest)) := by
  subst hA
  exact vk_getf hexec hb (zw_OF hz.2.2.1.2.2.1) hS hown hlink (fun _ h => h) hdg kk
theorem sb_compact (hexec : p.tables.exec = Jvm.exec) (hb : c.code = cc) (hz : zS a ad s) (hA : A = ga ad s.heap.size) (hS : va_S A s.heap H locs) {own : String} {index : Nat} (hown : s.vm.findClass own = some m.cls) (hlink : (Cond.fieldLink own index "java/lang/String" "COMPACT_STRINGS" "Z").before args s = true) (hdg : decode cc pc = .ok (.getstatic index, 3))
    (kk : ∀ x : Int32, x.toInt = 1 → W p l e R s m args below meth c H locs cells slots Q (F0 m (pc + 3) ls (.int x :: rest))) : W p l e R s m args below meth c H locs cells slots Q (F0 m pc ls rest) := by
  subst hA
  exact va_gets hexec hb (zw_Z hz.2.2.2.1.1) hS hown hlink (fun _ h => h) hdg (kk 1 rfl)
theorem sb_oob (hexec : p.tables.exec = Jvm.exec) (hb : c.code = cc) (hz : zS a ad s) (hA : A = ga ad s.heap.size) (hS : va_S A s.heap H locs) {own : String} {index : Nat} (hown : s.vm.findClass own = some m.cls) (hlink : (Cond.fieldLink own index "jdk/internal/util/Preconditions" "SIOOBE_FORMATTER" "Ljava/util/function/BiFunction;").before args s = true) (hdg : decode cc pc = .ok (.getstatic index, 3))
    (k0 : W p l e R s m args below meth c H locs cells slots Q (F0 m (pc + 3) ls (.null :: rest))) (k1 : ∀ w : Nat, W p l e R s m args below meth c H locs cells slots Q (F0 m (pc + 3) ls (.ref w :: rest))) : W p l e R s m args below meth c H locs cells slots Q (F0 m pc ls rest) := by
  subst hA
  rcases hz.2.2.2.1.2 with h | ⟨t, h⟩
  · exact va_gets hexec hb (zw_Z h) hS hown hlink (fun _ h => h) hdg k0
  · exact va_gets hexec hb (zw_Z h) hS hown hlink (fun _ h => h) hdg (k1 t)
theorem sb_recv (hz : zS a ad s) (hA : A = ga ad s.heap.size) (hS : va_S A s.heap H locs) : ∃ cellB : Cell, H[a 105]? = some cellB ∧ cellB.vm.isStatics = false ∧ s.vm.findClass "java/lang/String" = some cellB.cls := by
  subst hA
  obtain ⟨cell, h1, h2, h3, -⟩ := (zw_O hz.2.2.1.1).kept hS.2.1
  exact ⟨cell, h1, h2, h3⟩
theorem sn_i2b (hexec : p.tables.exec = Jvm.exec) (hb : c.code = cc) {x : Int32} (hdg : decode cc pc = .ok (.i2b, 1)) (kk : ∀ z : Int32, -128 ≤ z.toInt → z.toInt ≤ 127 → W p l e R s m args below meth c H locs cells slots Q (F0 m (pc + 1) ls (.int z :: rest))) : W p l e R s m args below meth c H locs cells slots Q (F0 m pc ls (.int x :: rest)) :=
  lv_i2b hexec hb hdg rfl (kk _ (sn_b8 x).1 (sn_b8 x).2)
end SB
section SLA
variable {p : Program} {l : Launch} {e : Env} {R : Room} {s : State} {m : MethodId} {args : Array Value} {below : List Frame} {meth : Method} {c : Code} {H H0 : Heap} {locs : List Loc} {cells slots : Nat} {Q : State → Prop} {D : va_G} {cl : List vw_C} {A : Nat → Prop} {cc : ByteArray} {pc : Nat} {ls : Array Slot} {rest : List Value} {cI cJ : ClassId} {sh : sh_W} {a : Nat}
theorem sv_last (hexec : p.tables.exec = Jvm.exec) (hb : c.code = cc) (hK : va_K D cl [(cI, .int), (cJ, .long)] s) (hA : ∀ (k : Nat) (x : Nat × sh_C), sh[k]? = some x → A x.1) (hI : sI D cl cI cJ sh A H0 H locs) (q0 : Nat) {n : Nat} (he : sh[q0]? = some (a, cL n)) {i : Int32} {x : Int64} (h1 : 0 ≤ i.toInt) (h2 : i.toInt < n) (hsh : sh.set q0 (a, cL n) = sh) (hdg : decode cc pc = .ok (.lastore, 1))
    (kk : ∀ (H1 : Heap) (locs1 : List Loc), sI D cl cI cJ sh A H0 H1 locs1 → W p l e R s m args below meth c H1 locs1 cells slots Q (F0 m (pc + 1) ls rest)) : W p l e R s m args below meth c H locs cells slots Q (F0 m pc ls (.long x :: .int i :: .ref a :: rest)) := by
  obtain ⟨⟨ws, hok, hP, hD⟩, hS⟩ := hI
  obtain ⟨e1, h3, f, rfl⟩ := hok.2 q0 _ he
  refine va_last hexec hb hK hP (sh_D hok hA hD) hS q0 1 h3 rfl (sv_in h1 h2) hdg (fun H1 locs1 hP1 hD1 hS1 => kk H1 locs1 ⟨⟨_, ?_, hP1, hD1.top⟩, hS1⟩)
  rw [← hsh]
  exact hok.set (sh_lt he) ⟨_, rfl⟩
end SLA
section STL
variable {p : Program} {l : Launch} {e : Env} {R : Room} {s : State} {m : MethodId} {args : Array Value} {below : List Frame} {meth : Method} {c : Code} {H : Heap} {locs : List Loc} {cells slots : Nat} {Q : State → Prop} {pc : Nat} {ls : Array Slot} {rest : List Value}
theorem sn_topL {L : Nat} (hL : L ≤ 2560) (k : ∀ z : Int32, z.toInt = (L : Int) → W p l e R s m args below meth c H locs cells slots Q (F0 m pc ls (.int z :: rest))) : W p l e R s m args below meth c H locs cells slots Q (F0 m pc ls (.int (Int32.ofNat L) :: rest)) := k _ (nI_toInt (by omega))
end STL
