/-! Math.min, Math.abs, System.arraycopy over shapes. -/
theorem sn_cl {z : Int32} (h : 0 ≤ z.toInt) : (z.toNatClampNeg : Int) = z.toInt := by
  obtain ⟨j, hj, rfl, e⟩ := sn_of h
  rw [nI_clamp hj, e]
theorem sn_nneg {z : Int32} (h : 0 ≤ z.toInt) : ¬ z < 0 := fun q => by
  have := sn_ltI q
  rw [Int32.toInt_zero] at this
  omega
section SJ
variable {p : Program} {l : Launch} {e : Env} {R : Room} {s : State} {m : MethodId} {args : Array Value} {below : List Frame} {meth : Method} {c : Code} {H H0 : Heap} {locs : List Loc} {cells slots : Nat} {Q : State → Prop} {D : va_G} {cl : List vw_C} {A : Nat → Prop} {cc : ByteArray} {pc : Nat} {ls : Array Slot} {rest : List Value} {cI cJ : ClassId} {sh : sh_W} {a a0 : Nat}
theorem sj_min (hexec : p.tables.exec = Jvm.exec) (hb : c.code = cc) (hml : c.maxLocals = ls.size) {own : String} {index : Nat} (hown : s.vm.findClass own = some m.cls) (hlink : (Cond.methodLink own index Lib.Math.min.name).before args s = true) (hstat : (Cond.static Lib.Math.min.name).before args s = true) (hini : (Cond.initialized "java/lang/Math").before args s = true) (hcode : (Cond.code Lib.Math.min.name Lib.Math.min.code 2 (some .int)).before args s = true)
    (hframes : 1 ≤ R.frames) (hlocals : (rest.map fun v => v.category).sum + 13 ≤ R.locals) (hc : cells ≤ R.cells) (hs : slots ≤ R.slots) {x y : Int32} (hdg : decode cc pc = .ok (.invokestatic index, 3))
    (kk : ∀ z : Int32, z.toInt ≤ x.toInt → z.toInt ≤ y.toInt → (z.toInt = x.toInt ∨ z.toInt = y.toInt) → W p l e R s m args below meth c H locs cells slots Q (F0 m (pc + 3) ls (.int z :: rest))) : W p l e R s m args below meth c H locs cells slots Q (F0 m pc ls (.int y :: .int x :: rest)) := by
  refine va_mmin hexec hb hml hown hlink hstat hini hcode hframes hlocals hc hs hdg ?_
  by_cases h : y < x
  · rw [if_pos h]
    exact kk y (Int.le_of_lt (sn_ltI h)) (Int.le_refl _) (Or.inr rfl)
  · rw [if_neg h]
    exact kk x (Int.le_refl _) (sn_nltI h) (Or.inl rfl)
theorem sj_max (hexec : p.tables.exec = Jvm.exec) (hb : c.code = cc) (hml : c.maxLocals = ls.size) {own : String} {index : Nat} (hown : s.vm.findClass own = some m.cls) (hlink : (Cond.methodLink own index Lib.Math.max.name).before args s = true) (hstat : (Cond.static Lib.Math.max.name).before args s = true) (hini : (Cond.initialized "java/lang/Math").before args s = true) (hcode : (Cond.code Lib.Math.max.name Lib.Math.max.code 2 (some .int)).before args s = true)
    (hframes : 1 ≤ R.frames) (hlocals : (rest.map fun v => v.category).sum + 13 ≤ R.locals) (hc : cells ≤ R.cells) (hs : slots ≤ R.slots) {x y : Int32} (hdg : decode cc pc = .ok (.invokestatic index, 3))
    (kk : ∀ z : Int32, x.toInt ≤ z.toInt → y.toInt ≤ z.toInt → (z.toInt = x.toInt ∨ z.toInt = y.toInt) → W p l e R s m args below meth c H locs cells slots Q (F0 m (pc + 3) ls (.int z :: rest))) : W p l e R s m args below meth c H locs cells slots Q (F0 m pc ls (.int y :: .int x :: rest)) := by
  refine va_mmax hexec hb hml hown hlink hstat hini hcode hframes hlocals hc hs hdg ?_
  by_cases h : x < y
  · rw [if_pos h]
    exact kk y (Int.le_of_lt (sn_ltI h)) (Int.le_refl _) (Or.inr rfl)
  · rw [if_neg h]
    exact kk x (Int.le_refl _) (sn_nltI h) (Or.inl rfl)
theorem sj_abs (hexec : p.tables.exec = Jvm.exec) (hb : c.code = cc) (hml : c.maxLocals = ls.size) {own : String} {index : Nat} (hown : s.vm.findClass own = some m.cls) (hlink : (Cond.methodLink own index Lib.Math.abs.name).before args s = true) (hstat : (Cond.static Lib.Math.abs.name).before args s = true) (hini : (Cond.initialized "java/lang/Math").before args s = true) (hcode : (Cond.code Lib.Math.abs.name Lib.Math.abs.code 1 (some .int)).before args s = true)
    (hframes : 1 ≤ R.frames) (hlocals : (rest.map fun v => v.category).sum + 13 ≤ R.locals) (hc : cells ≤ R.cells) (hs : slots ≤ R.slots) {x : Int32} (hdg : decode cc pc = .ok (.invokestatic index, 3))
    (kk : ∀ z : Int32, -2147483648 ≤ z.toInt → z.toInt ≤ 2147483647 → W p l e R s m args below meth c H locs cells slots Q (F0 m (pc + 3) ls (.int z :: rest))) : W p l e R s m args below meth c H locs cells slots Q (F0 m pc ls (.int x :: rest)) :=
  va_mabs hexec hb hml hown hlink hstat hini hcode hframes hlocals hc hs hdg (kk _ (sn_rng _).1 (sn_rng _).2)
theorem sj_copy (hexec : p.tables.exec = Jvm.exec) (hb : c.code = cc) (hml : c.maxLocals = ls.size) {own : String} {index : Nat} (hown : s.vm.findClass own = some m.cls) (hlink : (Cond.methodLink own index arraycopyName).before args s = true) (hnat : (Cond.native arraycopyName).before args s = true) (hstat : (Cond.static arraycopyName).before args s = true) (hini : (Cond.initialized "java/lang/System").before args s = true)
    (hK : va_K D cl [(cI, .int), (cJ, .long)] s) (hA : ∀ (k : Nat) (x : Nat × sh_C), sh[k]? = some x → A x.1) (hI : sI D cl cI cJ sh A H0 H locs) (q0 q1 : Nat) {n0 n1 : Nat} {P0 P1 : (Nat → Int32) → Prop} {lo hi : Int} (he0 : sh[q0]? = some (a0, cA n0 P0)) (he1 : sh[q1]? = some (a, cA n1 P1)) (hp0 : ∀ f, P0 f → rg lo hi f) (hp1 : ∀ f, P1 f → rg lo hi f)
    {sp dp n : Int32} (h1 : 0 ≤ sp.toInt) (h2 : 0 ≤ dp.toInt) (h3 : 0 ≤ n.toInt) (h4 : sp.toInt + n.toInt ≤ n0) (h5 : dp.toInt + n.toInt ≤ n1)
    (hframes : 1 ≤ R.frames) (hlocals : (rest.map fun v => v.category).sum + (nativeFrameWords "java/lang/System" "arraycopy" 5 + 11) ≤ R.locals) (hsh : sh.set q1 (a, cA n1 (rg lo hi)) = sh) (hdg : decode cc pc = .ok (.invokestatic index, 3))
    (kk : ∀ (H1 : Heap) (locs1 : List Loc), sI D cl cI cJ sh A H0 H1 locs1 → W p l e R s m args below meth c H1 locs1 cells slots Q (F0 m (pc + 3) ls rest)) : W p l e R s m args below meth c H locs cells slots Q (F0 m pc ls (.int n :: .int dp :: .ref a :: .int sp :: .ref a0 :: rest)) := by
  obtain ⟨⟨ws, hok, hP, hD⟩, hS⟩ := hI
  obtain ⟨e0, g0, f, hf, rfl⟩ := hok.2 q0 _ he0
  obtain ⟨e1, g1, g, hg, rfl⟩ := hok.2 q1 _ he1
  have c1 := sn_cl h1
  have c2 := sn_cl h2
  have c3 := sn_cl h3
  refine va_copyi hexec hb hml hown hlink hnat hstat hini hK hP (sh_D hok hA hD) hS q0 q1 0 0 (ty := .int) g0 g1 rfl rfl rfl (sn_nneg h1) (sn_nneg h2) (sn_nneg h3) (by omega) (by omega) (fun i _ => rfl) hframes hlocals hdg (fun H1 locs1 hP1 hD1 hS1 => kk H1 locs1 ⟨⟨_, ?_, hP1, hD1.top⟩, hS1⟩)
  rw [← hsh]
  exact hok.set (sh_lt he1) ⟨_, rg_cpy (hp0 f hf) (hp1 g hg), rfl⟩
theorem sj_copyx (hexec : p.tables.exec = Jvm.exec) (hb : c.code = cc) (hml : c.maxLocals = ls.size) {own : String} {index : Nat} (hown : s.vm.findClass own = some m.cls) (hlink : (Cond.methodLink own index arraycopyName).before args s = true) (hnat : (Cond.native arraycopyName).before args s = true) (hstat : (Cond.static arraycopyName).before args s = true) (hini : (Cond.initialized "java/lang/System").before args s = true)
    (hK : va_K D cl [(cI, .int), (cJ, .long)] s) (hA : ∀ (k : Nat) (x : Nat × sh_C), sh[k]? = some x → A x.1) (hI : sI D cl cI cJ sh A H0 H locs) (q0 q1 : Nat) {n0 n1 : Nat} {P0 P1 : (Nat → Int32) → Prop} {lo hi : Int} (he0 : sh[q0]? = some (a0, cA n0 P0)) (he1 : sh[q1]? = some (a, cA n1 P1)) (hp0 : ∀ f, P0 f → rg lo hi f) (hp1 : ∀ f, P1 f → rg lo hi f)
    {sp dp n : Int32} (h1 : 0 ≤ sp.toInt) (h2 : 0 ≤ dp.toInt) (h3 : 0 ≤ n.toInt) (h4 : sp.toInt + n.toInt ≤ n0) (h5 : dp.toInt + n.toInt ≤ n1)
    (hframes : 1 ≤ R.frames) (hlocals : (rest.map fun v => v.category).sum + (nativeFrameWords "java/lang/System" "arraycopy" 5 + 11) ≤ R.locals) (hdg : decode cc pc = .ok (.invokestatic index, 3))
    (kk : ∀ (f' : Nat → Int32), rg lo hi f' → ∀ (H1 : Heap) (locs1 : List Loc), sI D cl cI cJ (sh.set q1 (a, cA n1 (fun z => z = f'))) A H0 H1 locs1 → W p l e R s m args below meth c H1 locs1 cells slots Q (F0 m (pc + 3) ls rest)) : W p l e R s m args below meth c H locs cells slots Q (F0 m pc ls (.int n :: .int dp :: .ref a :: .int sp :: .ref a0 :: rest)) := by
  obtain ⟨⟨ws, hok, hP, hD⟩, hS⟩ := hI
  obtain ⟨e0, g0, f, hf, rfl⟩ := hok.2 q0 _ he0
  obtain ⟨e1, g1, g, hg, rfl⟩ := hok.2 q1 _ he1
  have c1 := sn_cl h1
  have c2 := sn_cl h2
  have c3 := sn_cl h3
  refine va_copyi hexec hb hml hown hlink hnat hstat hini hK hP (sh_D hok hA hD) hS q0 q1 0 0 (ty := .int) g0 g1 rfl rfl rfl (sn_nneg h1) (sn_nneg h2) (sn_nneg h3) (by omega) (by omega) (fun i _ => rfl) hframes hlocals hdg (fun H1 locs1 hP1 hD1 hS1 => kk (va_cpy f g sp.toNatClampNeg dp.toNatClampNeg n.toNatClampNeg) (rg_cpy (hp0 f hf) (hp1 g hg)) H1 locs1 ⟨⟨_, ?_, hP1, hD1.top⟩, hS1⟩)
  exact hok.set (sh_lt he1) ⟨_, rfl, rfl⟩
end SJ
