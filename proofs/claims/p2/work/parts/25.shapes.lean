/-! Shapes: which cells there are, what their fields and elements may hold. -/
abbrev sh_F : Type := Nat ⊕ (Int × Int)
abbrev sh_C : Type := (Nat × ((Nat → Int32) → Prop)) ⊕ (Nat ⊕ (Nat × List sh_F))
abbrev fR (a : Nat) : sh_F := .inl a
abbrev fI (lo hi : Int) : sh_F := .inr (lo, hi)
abbrev cA (n : Nat) (P : (Nat → Int32) → Prop) : sh_C := .inl (n, P)
abbrev cL (n : Nat) : sh_C := .inr (.inl n)
abbrev cO (ci : Nat) (fs : List sh_F) : sh_C := .inr (.inr (ci, fs))
def rg (lo hi : Int) (f : Nat → Int32) : Prop := ∀ j, lo ≤ (f j).toInt ∧ (f j).toInt ≤ hi
def sh_f : sh_F → Value → Prop
  | .inl a, v => v = .ref a
  | .inr q, v => ∃ x : Int32, v = .int x ∧ q.1 ≤ x.toInt ∧ x.toInt ≤ q.2
def sh_c (cI cJ : ClassId) : sh_C → va_E → Prop
  | .inl q, e => ∃ f : Nat → Int32, q.2 f ∧ e = .inl (cI, q.1, .inl f)
  | .inr (.inl n), e => ∃ f : Nat → Int64, e = .inl (cJ, n, .inr (.inl f))
  | .inr (.inr q), e => ∃ vs : List Value, e = .inr (q.1, vs) ∧ vs.length = q.2.length ∧ ∀ (k : Nat) (f : sh_F), q.2[k]? = some f → ∃ v, vs[k]? = some v ∧ sh_f f v
abbrev sh_W : Type := List (Nat × sh_C)
def sh_ok (cI cJ : ClassId) (sh : sh_W) (ws : va_W) : Prop := ws.length = sh.length ∧ ∀ (k : Nat) (x : Nat × sh_C), sh[k]? = some x → ∃ e, ws[k]? = some (x.1, e) ∧ sh_c cI cJ x.2 e
def sh_I (D : va_G) (cl : List vw_C) (cI cJ : ClassId) (sh : sh_W) (H : Heap) : Prop := ∃ ws, sh_ok cI cJ sh ws ∧ va_P D cl ws H ∧ va_D (fun _ => True) ws
def ga (ad : List Nat) (sz : Nat) : Nat → Prop := fun q => q ∈ ad ∨ sz ≤ q
/-- the shape holds in H; beside it only cells of A differ from H0 -/
def sI (D : va_G) (cl : List vw_C) (cI cJ : ClassId) (sh : sh_W) (A : Nat → Prop) (H0 H : Heap) (locs : List Loc) : Prop := sh_I D cl cI cJ sh H ∧ va_S A H0 H locs
theorem sh_ok.set {cI cJ : ClassId} {sh : sh_W} {ws : va_W} {q0 : Nat} {a : Nat} {c' : sh_C} {e' : va_E} (h : sh_ok cI cJ sh ws) (hq : q0 < sh.length) (hc : sh_c cI cJ c' e') : sh_ok cI cJ (sh.set q0 (a, c')) (ws.set q0 (a, e')) := by
  refine ⟨by rw [List.length_set, List.length_set]; exact h.1, fun k x hk => ?_⟩
  by_cases hkq : k = q0
  · subst hkq
    rw [List.getElem?_set_self hq] at hk
    cases hk
    exact ⟨e', by rw [List.getElem?_set_self (by rw [h.1]; exact hq)], hc⟩
  · rw [List.getElem?_set_ne (fun z => hkq z.symm)] at hk
    obtain ⟨e, h1, h2⟩ := h.2 k x hk
    exact ⟨e, by rw [List.getElem?_set_ne (fun z => hkq z.symm)]; exact h1, h2⟩
theorem sh_lt {sh : sh_W} {k : Nat} {x : Nat × sh_C} (h : sh[k]? = some x) : k < sh.length := (List.getElem?_eq_some_iff.mp h).1
theorem sh_fs_set {fs : List sh_F} {vs : List Value} {k : Nat} {f' : sh_F} {v : Value} (hl : vs.length = fs.length) (h : ∀ (k : Nat) (f : sh_F), fs[k]? = some f → ∃ v, vs[k]? = some v ∧ sh_f f v) (hk : k < fs.length) (hv : sh_f f' v) :
    (vs.set k v).length = (fs.set k f').length ∧ ∀ (j : Nat) (f : sh_F), (fs.set k f')[j]? = some f → ∃ w, (vs.set k v)[j]? = some w ∧ sh_f f w := by
  refine ⟨by rw [List.length_set, List.length_set]; exact hl, fun j f hj => ?_⟩
  by_cases hjk : j = k
  · subst hjk
    rw [List.getElem?_set_self hk] at hj
    cases hj
    exact ⟨v, by rw [List.getElem?_set_self (by rw [hl]; exact hk)], hv⟩
  · rw [List.getElem?_set_ne (fun z => hjk z.symm)] at hj
    obtain ⟨w, h1, h2⟩ := h j f hj
    exact ⟨w, by rw [List.getElem?_set_ne (fun z => hjk z.symm)]; exact h1, h2⟩
theorem sh_D {cI cJ : ClassId} {sh : sh_W} {ws : va_W} {A : Nat → Prop} (h : sh_ok cI cJ sh ws) (hA : ∀ (k : Nat) (x : Nat × sh_C), sh[k]? = some x → A x.1) (hD : va_D (fun _ => True) ws) : va_D A ws := by
  refine hD.weaken (fun k q hk _ => ?_)
  have hlt : k < ws.length := (List.getElem?_eq_some_iff.mp hk).1
  rw [h.1] at hlt
  obtain ⟨e, h1, -⟩ := h.2 k _ (List.getElem?_eq_getElem hlt)
  rw [hk] at h1
  have h2 : q.1 = (sh[k]).1 := by rw [Option.some.inj h1]
  rw [h2]
  exact hA k _ (List.getElem?_eq_getElem hlt)
theorem sh_ga {sh : sh_W} {ad : List Nat} {sz : Nat} (h : sh.map (fun x => x.1) = ad) : ∀ (k : Nat) (x : Nat × sh_C), sh[k]? = some x → ga ad sz x.1 := by
  intro k x hk
  refine Or.inl ?_
  rw [← h]
  exact List.mem_map_of_mem (List.mem_of_getElem? hk)
theorem va_D.top {A : Nat → Prop} {ws : va_W} (h : va_D A ws) : va_D (fun _ => True) ws := h.weaken (fun _ _ _ _ => trivial)
theorem rg_upd {lo hi : Int} {f : Nat → Int32} {k : Nat} {x : Int32} (h : rg lo hi f) (h1 : lo ≤ x.toInt) (h2 : x.toInt ≤ hi) : rg lo hi (upd f k x) := by
  intro j
  by_cases hj : j = k
  · subst hj; rw [pk_us]; exact ⟨h1, h2⟩
  · rw [pk_un hj]; exact h j
theorem rg_cpy {lo hi : Int} {f g : Nat → Int32} {a b n : Nat} (hf : rg lo hi f) (hg : rg lo hi g) : rg lo hi (va_cpy f g a b n) := by
  intro j
  by_cases h : b ≤ j ∧ j < b + n
  · rw [pk_cpy_in h.1 h.2]; exact hf _
  · rw [pk_cpy_out (by omega)]; exact hg _
theorem sv_in {i : Int32} {n : Nat} (h1 : 0 ≤ i.toInt) (h2 : i.toInt < n) : vp_in i n := vp_in_iff.mpr ⟨h1, h2⟩
section SV
variable {p : Program} {l : Launch} {e : Env} {R : Room} {s : State} {m : MethodId} {args : Array Value} {below : List Frame} {meth : Method} {c : Code} {H H0 : Heap} {locs : List Loc} {cells slots : Nat} {Q : State → Prop} {D : va_G} {cl : List vw_C} {tys : List (ClassId × FieldType)} {A : Nat → Prop} {cc : ByteArray} {pc : Nat} {ls : Array Slot} {rest : List Value} {cI cJ : ClassId} {sh sh' : sh_W} {a : Nat}
theorem sv_get (hexec : p.tables.exec = Jvm.exec) (hb : c.code = cc) {own C : String} {T : u_T} {N ci index : Nat} {Ts : List Cond} (hts : ∀ w ∈ Ts, w.before args s = true) (hin : ∀ w ∈ u_ws C T N, w ∈ Ts) (hown : s.vm.findClass own = some m.cls) (hK : va_K D cl tys s) (hI : sI D cl cI cJ sh A H0 H locs) (q0 : Nat) {fs : List sh_F} (he : sh[q0]? = some (a, cO ci fs)) (hc : cl[ci]? = some (C, T, N)) (k : Nat) (hk : k < N) (hlink : (Cond.fieldLink own index (T k).1 (T k).2.1 (T k).2.2.1).before args s = true) {lo hi : Int} (hf : fs[k]? = some (fI lo hi)) (hdg : decode cc pc = .ok (.getfield index, 3))
    (kk : ∀ x : Int32, lo ≤ x.toInt → x.toInt ≤ hi → W p l e R s m args below meth c H locs cells slots Q (F0 m (pc + 3) ls (.int x :: rest))) : W p l e R s m args below meth c H locs cells slots Q (F0 m pc ls (.ref a :: rest)) := by
  obtain ⟨⟨ws, hok, hP, hD⟩, hS⟩ := hI
  obtain ⟨e1, h1, vs, rfl, hl, hv⟩ := hok.2 q0 _ he
  obtain ⟨v, h2, x, rfl, h3, h4⟩ := hv k _ hf
  exact va_get hexec hb hts hin hown hK hP q0 h1 hc k hk hlink (fun _ h => h) h2 hdg (kk x h3 h4)
theorem sv_gete (hexec : p.tables.exec = Jvm.exec) (hb : c.code = cc) {own C : String} {T : u_T} {N ci index : Nat} {Ts : List Cond} (hts : ∀ w ∈ Ts, w.before args s = true) (hin : ∀ w ∈ u_ws C T N, w ∈ Ts) (hown : s.vm.findClass own = some m.cls) (hK : va_K D cl tys s) (hI : sI D cl cI cJ sh A H0 H locs) (q0 : Nat) {fs : List sh_F} (he : sh[q0]? = some (a, cO ci fs)) (hc : cl[ci]? = some (C, T, N)) (k : Nat) (hk : k < N) (hlink : (Cond.fieldLink own index (T k).1 (T k).2.1 (T k).2.2.1).before args s = true) {v : Int} (hf : fs[k]? = some (fI v v)) (hdg : decode cc pc = .ok (.getfield index, 3))
    (kk : ∀ x : Int32, x.toInt = v → W p l e R s m args below meth c H locs cells slots Q (F0 m (pc + 3) ls (.int x :: rest))) : W p l e R s m args below meth c H locs cells slots Q (F0 m pc ls (.ref a :: rest)) :=
  sv_get hexec hb hts hin hown hK hI q0 he hc k hk hlink hf hdg (fun x h1 h2 => kk x (Int.le_antisymm h2 h1))
theorem sv_getr (hexec : p.tables.exec = Jvm.exec) (hb : c.code = cc) {own C : String} {T : u_T} {N ci index : Nat} {Ts : List Cond} (hts : ∀ w ∈ Ts, w.before args s = true) (hin : ∀ w ∈ u_ws C T N, w ∈ Ts) (hown : s.vm.findClass own = some m.cls) (hK : va_K D cl tys s) (hI : sI D cl cI cJ sh A H0 H locs) (q0 : Nat) {fs : List sh_F} (he : sh[q0]? = some (a, cO ci fs)) (hc : cl[ci]? = some (C, T, N)) (k : Nat) (hk : k < N) (hlink : (Cond.fieldLink own index (T k).1 (T k).2.1 (T k).2.2.1).before args s = true) {b : Nat} (hf : fs[k]? = some (fR b)) (hdg : decode cc pc = .ok (.getfield index, 3))
    (kk : W p l e R s m args below meth c H locs cells slots Q (F0 m (pc + 3) ls (.ref b :: rest))) : W p l e R s m args below meth c H locs cells slots Q (F0 m pc ls (.ref a :: rest)) := by
  obtain ⟨⟨ws, hok, hP, hD⟩, hS⟩ := hI
  obtain ⟨e1, h1, vs, rfl, hl, hv⟩ := hok.2 q0 _ he
  obtain ⟨v, h2, h3⟩ := hv k _ hf
  have h3' : v = .ref b := h3
  subst h3'
  exact va_get hexec hb hts hin hown hK hP q0 h1 hc k hk hlink (fun _ h => h) h2 hdg kk
theorem sv_put (hexec : p.tables.exec = Jvm.exec) (hb : c.code = cc) {own C : String} {T : u_T} {N ci index : Nat} {Ts : List Cond} (hts : ∀ w ∈ Ts, w.before args s = true) (hin : ∀ w ∈ u_ws C T N, w ∈ Ts) (ty0 : Nat → FieldType) (hty : ∀ k, k < N → parseFieldDescriptor (T k).2.2.1 = some (ty0 k)) (hnm : ∀ a, a < N → ∀ b, b < N → a ≠ b → (T a).2.1 ≠ (T b).2.1) (hown : s.vm.findClass own = some m.cls) (hK : va_K D cl tys s) (hA : ∀ (k : Nat) (x : Nat × sh_C), sh[k]? = some x → A x.1) (hI : sI D cl cI cJ sh A H0 H locs) (q0 : Nat) {fs : List sh_F} (he : sh[q0]? = some (a, cO ci fs)) (hc : cl[ci]? = some (C, T, N)) (k : Nat) (hk : k < N) (hlink : (Cond.fieldLink own index (T k).1 (T k).2.1 (T k).2.2.1).before args s = true) (hfin : (T k).2.2.2 = false) {ty : FieldType} {x : Int32} (hd : parseFieldDescriptor (T k).2.2.1 = some ty) (hn : narrow ty (.int x) = .int x) (hfit : fits ty (.int x) = true) (hlf : k < fs.length) {lo hi : Int} (h1 : lo ≤ x.toInt) (h2 : x.toInt ≤ hi) (hsh : sh.set q0 (a, cO ci (fs.set k (fI lo hi))) = sh') (hdg : decode cc pc = .ok (.putfield index, 3))
    (kk : ∀ (H1 : Heap) (locs1 : List Loc), sI D cl cI cJ sh' A H0 H1 locs1 → W p l e R s m args below meth c H1 locs1 cells slots Q (F0 m (pc + 3) ls rest)) : W p l e R s m args below meth c H locs cells slots Q (F0 m pc ls (.int x :: .ref a :: rest)) := by
  obtain ⟨⟨ws, hok, hP, hD⟩, hS⟩ := hI
  obtain ⟨e1, h3, vs, rfl, hl, hv⟩ := hok.2 q0 _ he
  refine va_put hexec hb hts hin ty0 hty hnm hown hK hP (sh_D hok hA hD) hS q0 h3 hc k hk hlink (fun _ h => h) hfin hd hn hfit (by rw [hl]; exact hlf) hdg (fun H1 locs1 hP1 hD1 hS1 => kk H1 locs1 ⟨⟨_, ?_, hP1, hD1.top⟩, hS1⟩)
  rw [← hsh]
  have h4 := sh_fs_set hl hv hlf (f' := fI lo hi) (v := .int x) ⟨x, rfl, h1, h2⟩
  exact hok.set (sh_lt he) ⟨_, rfl, h4.1, h4.2⟩
theorem sv_iald (hexec : p.tables.exec = Jvm.exec) (hb : c.code = cc) (hK : va_K D cl [(cI, .int), (cJ, .long)] s) (hI : sI D cl cI cJ sh A H0 H locs) (q0 : Nat) {n : Nat} {P : (Nat → Int32) → Prop} (he : sh[q0]? = some (a, cA n P)) {i : Int32} (h1 : 0 ≤ i.toInt) (h2 : i.toInt < n) (hdg : decode cc pc = .ok (.iaload, 1))
    (kk : ∀ (f : Nat → Int32), P f → W p l e R s m args below meth c H locs cells slots Q (F0 m (pc + 1) ls (.int (f i.toNatClampNeg) :: rest))) : W p l e R s m args below meth c H locs cells slots Q (F0 m pc ls (.int i :: .ref a :: rest)) := by
  obtain ⟨⟨ws, hok, hP, hD⟩, hS⟩ := hI
  obtain ⟨e1, h3, f, hf, rfl⟩ := hok.2 q0 _ he
  exact va_iald hexec hb hK hP q0 0 h3 rfl (sv_in h1 h2) hdg (kk f hf)
theorem sv_ialdr (hexec : p.tables.exec = Jvm.exec) (hb : c.code = cc) (hK : va_K D cl [(cI, .int), (cJ, .long)] s) (hI : sI D cl cI cJ sh A H0 H locs) (q0 : Nat) {n : Nat} {lo hi : Int} (he : sh[q0]? = some (a, cA n (rg lo hi))) {i : Int32} (h1 : 0 ≤ i.toInt) (h2 : i.toInt < n) (hdg : decode cc pc = .ok (.iaload, 1))
    (kk : ∀ x : Int32, lo ≤ x.toInt → x.toInt ≤ hi → W p l e R s m args below meth c H locs cells slots Q (F0 m (pc + 1) ls (.int x :: rest))) : W p l e R s m args below meth c H locs cells slots Q (F0 m pc ls (.int i :: .ref a :: rest)) :=
  sv_iald hexec hb hK hI q0 he h1 h2 hdg (fun f hf => kk _ (hf _).1 (hf _).2)
theorem sv_ialde (hexec : p.tables.exec = Jvm.exec) (hb : c.code = cc) (hK : va_K D cl [(cI, .int), (cJ, .long)] s) (hI : sI D cl cI cJ sh A H0 H locs) (q0 : Nat) {n : Nat} {f : Nat → Int32} (he : sh[q0]? = some (a, cA n (fun g => g = f))) {i : Int32} (h1 : 0 ≤ i.toInt) (h2 : i.toInt < n) (hdg : decode cc pc = .ok (.iaload, 1))
    (kk : ∀ x : Int32, x = f i.toNatClampNeg → W p l e R s m args below meth c H locs cells slots Q (F0 m (pc + 1) ls (.int x :: rest))) : W p l e R s m args below meth c H locs cells slots Q (F0 m pc ls (.int i :: .ref a :: rest)) :=
  sv_iald hexec hb hK hI q0 he h1 h2 hdg (fun g hg => kk _ (by rw [hg]))
theorem sv_iast (hexec : p.tables.exec = Jvm.exec) (hb : c.code = cc) (hK : va_K D cl [(cI, .int), (cJ, .long)] s) (hA : ∀ (k : Nat) (x : Nat × sh_C), sh[k]? = some x → A x.1) (hI : sI D cl cI cJ sh A H0 H locs) (q0 : Nat) {n : Nat} {P P' : (Nat → Int32) → Prop} (he : sh[q0]? = some (a, cA n P)) {i x : Int32} (h1 : 0 ≤ i.toInt) (h2 : i.toInt < n) (hP' : ∀ f, P f → P' (upd f i.toNatClampNeg x)) (hsh : sh.set q0 (a, cA n P') = sh') (hdg : decode cc pc = .ok (.iastore, 1))
    (kk : ∀ (H1 : Heap) (locs1 : List Loc), sI D cl cI cJ sh' A H0 H1 locs1 → W p l e R s m args below meth c H1 locs1 cells slots Q (F0 m (pc + 1) ls rest)) : W p l e R s m args below meth c H locs cells slots Q (F0 m pc ls (.int x :: .int i :: .ref a :: rest)) := by
  obtain ⟨⟨ws, hok, hP, hD⟩, hS⟩ := hI
  obtain ⟨e1, h3, f, hf, rfl⟩ := hok.2 q0 _ he
  refine va_iast hexec hb hK hP (sh_D hok hA hD) hS q0 0 h3 rfl (sv_in h1 h2) hdg (fun H1 locs1 hP1 hD1 hS1 => kk H1 locs1 ⟨⟨_, ?_, hP1, hD1.top⟩, hS1⟩)
  rw [← hsh]
  exact hok.set (sh_lt he) ⟨_, hP' f hf, rfl⟩
theorem sv_iastr (hexec : p.tables.exec = Jvm.exec) (hb : c.code = cc) (hK : va_K D cl [(cI, .int), (cJ, .long)] s) (hA : ∀ (k : Nat) (x : Nat × sh_C), sh[k]? = some x → A x.1) (hI : sI D cl cI cJ sh A H0 H locs) (q0 : Nat) {n : Nat} {lo hi : Int} (he : sh[q0]? = some (a, cA n (rg lo hi))) {i x : Int32} (h1 : 0 ≤ i.toInt) (h2 : i.toInt < n) (h3 : lo ≤ x.toInt) (h4 : x.toInt ≤ hi) (hsh : sh.set q0 (a, cA n (rg lo hi)) = sh) (hdg : decode cc pc = .ok (.iastore, 1))
    (kk : ∀ (H1 : Heap) (locs1 : List Loc), sI D cl cI cJ sh A H0 H1 locs1 → W p l e R s m args below meth c H1 locs1 cells slots Q (F0 m (pc + 1) ls rest)) : W p l e R s m args below meth c H locs cells slots Q (F0 m pc ls (.int x :: .int i :: .ref a :: rest)) :=
  sv_iast hexec hb hK hA hI q0 he h1 h2 (fun f hf => rg_upd hf h3 h4) hsh hdg kk
theorem sv_iaste (hexec : p.tables.exec = Jvm.exec) (hb : c.code = cc) (hK : va_K D cl [(cI, .int), (cJ, .long)] s) (hA : ∀ (k : Nat) (x : Nat × sh_C), sh[k]? = some x → A x.1) (hI : sI D cl cI cJ sh A H0 H locs) (q0 : Nat) {n : Nat} {f : Nat → Int32} (he : sh[q0]? = some (a, cA n (fun g => g = f))) {i x : Int32} (h1 : 0 ≤ i.toInt) (h2 : i.toInt < n) (hsh : ∀ f', sh.set q0 (a, cA n (fun g => g = f')) = sh' ) (hdg : decode cc pc = .ok (.iastore, 1))
    (kk : ∀ (H1 : Heap) (locs1 : List Loc), sI D cl cI cJ sh' A H0 H1 locs1 → W p l e R s m args below meth c H1 locs1 cells slots Q (F0 m (pc + 1) ls rest)) : W p l e R s m args below meth c H locs cells slots Q (F0 m pc ls (.int x :: .int i :: .ref a :: rest)) :=
  sv_iast hexec hb hK hA hI q0 he h1 h2 (P' := fun g => g = upd f i.toNatClampNeg x) (fun g hg => by rw [hg]) (hsh _) hdg kk
theorem sv_alen (hexec : p.tables.exec = Jvm.exec) (hb : c.code = cc) (hK : va_K D cl [(cI, .int), (cJ, .long)] s) (hI : sI D cl cI cJ sh A H0 H locs) (q0 : Nat) {n : Nat} {P : (Nat → Int32) → Prop} (he : sh[q0]? = some (a, cA n P)) (hn : (Int32.ofNat n).toInt = n) (hdg : decode cc pc = .ok (.arraylength, 1))
    (kk : ∀ x : Int32, x.toInt = n → W p l e R s m args below meth c H locs cells slots Q (F0 m (pc + 1) ls (.int x :: rest))) : W p l e R s m args below meth c H locs cells slots Q (F0 m pc ls (.ref a :: rest)) := by
  obtain ⟨⟨ws, hok, hP, hD⟩, hS⟩ := hI
  obtain ⟨e1, h3, f, hf, rfl⟩ := hok.2 q0 _ he
  exact va_alen hexec hb hK hP q0 0 h3 rfl rfl hdg (kk _ hn)
theorem sv_recv {C : String} {T : u_T} {N ci q0 : Nat} {fs : List sh_F} {Ts : List Cond} (hts : ∀ w ∈ Ts, w.before args s = true) (hin : ∀ w ∈ u_ws C T N, w ∈ Ts) (hK : va_K D cl tys s) (hI : sI D cl cI cJ sh A H0 H locs) (he : sh[q0]? = some (a, cO ci fs)) (hc : cl[ci]? = some (C, T, N)) :
    ∃ cellB : Cell, H[a]? = some cellB ∧ cellB.vm.isStatics = false ∧ s.vm.findClass C = some cellB.cls := by
  obtain ⟨⟨ws, hok, hP, hD⟩, hS⟩ := hI
  obtain ⟨e1, h1, vs, rfl, hl, hv⟩ := hok.2 q0 _ he
  exact ta_recv hts hin hK hP h1 hc
end SV
/-! Numbers: every number is a variable, with what is known of its toInt. -/
section SN
variable {p : Program} {l : Launch} {e : Env} {R : Room} {s : State} {m : MethodId} {args : Array Value} {below : List Frame} {meth : Method} {c : Code} {H : Heap} {locs : List Loc} {cells slots : Nat} {Q : State → Prop} {cc : ByteArray} {pc : Nat} {ls : Array Slot} {rest : List Value}
theorem sn_eq {n : Int} (h : Int32.ofInt n = Int32.ofInt n) (h1 : -2147483648 ≤ n) (h2 : n ≤ 2147483647) : (Int32.ofInt n).toInt = n := Int32.toInt_ofInt_of_le (by simpa using h1) (by omega)
theorem sn_iconst (hexec : p.tables.exec = Jvm.exec) (hb : c.code = cc) {n : Int} (hdg : decode cc pc = .ok (.iconst n, 1)) (hn : (Int32.ofInt n).toInt = n) (kk : ∀ z : Int32, z.toInt = n → W p l e R s m args below meth c H locs cells slots Q (F0 m (pc + 1) ls (.int z :: rest))) : W p l e R s m args below meth c H locs cells slots Q (F0 m pc ls rest) := lv_iconst hexec hb hdg rfl (kk _ hn)
theorem sn_bipush (hexec : p.tables.exec = Jvm.exec) (hb : c.code = cc) {n : Int} (hdg : decode cc pc = .ok (.bipush n, 2)) (hn : ((Int8.ofInt n).toInt32).toInt = n) (kk : ∀ z : Int32, z.toInt = n → W p l e R s m args below meth c H locs cells slots Q (F0 m (pc + 2) ls (.int z :: rest))) : W p l e R s m args below meth c H locs cells slots Q (F0 m pc ls rest) := lv_bipush hexec hb hdg rfl (kk _ hn)
theorem sn_sipush (hexec : p.tables.exec = Jvm.exec) (hb : c.code = cc) {n : Int} (hdg : decode cc pc = .ok (.sipush n, 3)) (hn : ((Int16.ofInt n).toInt32).toInt = n) (kk : ∀ z : Int32, z.toInt = n → W p l e R s m args below meth c H locs cells slots Q (F0 m (pc + 3) ls (.int z :: rest))) : W p l e R s m args below meth c H locs cells slots Q (F0 m pc ls rest) := lv_sipush hexec hb hdg rfl (kk _ hn)
theorem sn_ldc (hexec : p.tables.exec = Jvm.exec) (hb : c.code = cc) {own : String} {index : Nat} {v : Int32} {n : Int} (hown : s.vm.findClass own = some m.cls) (hconst : (Jvm.Cond.constant own index v).before args s = true) (hdg : decode cc pc = .ok (.ldc index, 2)) (hn : v.toInt = n) (kk : ∀ z : Int32, z.toInt = n → W p l e R s m args below meth c H locs cells slots Q (F0 m (pc + 2) ls (.int z :: rest))) : W p l e R s m args below meth c H locs cells slots Q (F0 m pc ls rest) := lv_ldc hexec hb hown hconst hdg (kk _ hn)
theorem sn_add {x y : Int32} (h1 : -2147483648 ≤ x.toInt + y.toInt) (h2 : x.toInt + y.toInt ≤ 2147483647) : (x + y).toInt = x.toInt + y.toInt := by
  rw [Int32.toInt_add, Int.bmod_eq_of_le (by omega) (by omega)]
theorem sn_sub {x y : Int32} (h1 : -2147483648 ≤ x.toInt - y.toInt) (h2 : x.toInt - y.toInt ≤ 2147483647) : (x - y).toInt = x.toInt - y.toInt := by
  rw [Int32.toInt_sub, Int.bmod_eq_of_le (by omega) (by omega)]
theorem sn_mul {x y : Int32} (h1 : -2147483648 ≤ x.toInt * y.toInt) (h2 : x.toInt * y.toInt ≤ 2147483647) : (x * y).toInt = x.toInt * y.toInt := by
  rw [Int32.toInt_mul, Int.bmod_eq_of_le (by omega) (by omega)]
theorem sn_rng (x : Int32) : -2147483648 ≤ x.toInt ∧ x.toInt ≤ 2147483647 := by
  have h1 := Int32.le_toInt x
  have h2 := Int32.toInt_lt x
  omega
end SN
