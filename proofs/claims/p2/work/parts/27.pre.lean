/-! A method's start over a shape; what is carried beside it. -/
def slw (sf lf : Nat → Int32) : Prop := ∀ j, 0 ≤ (sf j).toInt ∧ 0 ≤ (lf j).toInt ∧ (sf j).toInt + (lf j).toInt ≤ 24
theorem slw_upd {sf lf : Nat → Int32} {i j x y : Int32} (h : slw sf lf) (hij : i.toInt = j.toInt) (hx : 0 ≤ x.toInt) (hy : 0 ≤ y.toInt) (hxy : x.toInt + y.toInt ≤ 24) : slw (upd sf i.toNatClampNeg x) (upd lf j.toNatClampNeg y) := by
  have e : i = j := sn_lit hij
  subst e
  intro k
  by_cases hk : k = i.toNatClampNeg
  · subst hk; rw [pk_us, pk_us]; exact ⟨hx, hy, hxy⟩
  · rw [pk_un hk, pk_un hk]; exact h k
def zN : Nat → String
  | 0 => "FORMS_OF_NONE"
  | 1 => "FORMS_OF_FIRST"
  | 2 => "FORMS_OF_SECOND"
  | 3 => "FORMS_OF_MANY"
  | _ => "NEEDS_OF_MANY"
def zL : Nat → Nat
  | 0 => 16
  | 1 => 16
  | 2 => 32
  | _ => 10
def zT (a : Nat → Nat) (ad : List Nat) (U : State) (k : Nat) : Prop := va_Z "StoryMachine$Instruction" (zN k) "[I" (.ref (a (100 + k))) (fun q => q ∈ ad) U U.heap ∧ ∃ f : Nat → Int32, (∀ j, 0 ≤ (f j).toInt ∧ (f j).toInt ≤ 7) ∧ va_T .int (a (100 + k)) (zL k) (fun j => .int (f j)) (fun q => q ∈ ad) U U.heap
def zG (a : Nat → Nat) (ad : List Nat) (U : State) : Prop := va_O "java/lang/String" (a 105) (fun q => q ∈ ad) U U.heap ∧ va_OF "java/lang/String" "coder" "B" (.int 0) (a 105) (fun q => q ∈ ad) U U.heap ∧ va_OF "java/lang/String" "value" "[B" (.ref (a 106)) (a 105) (fun q => q ∈ ad) U U.heap ∧ ∃ f : Nat → Int32, va_T .byte (a 106) 24 (fun j => .int (f j)) (fun q => q ∈ ad) U U.heap
def zC (ad : List Nat) (U : State) : Prop := va_Z "java/lang/String" "COMPACT_STRINGS" "Z" (.int 1) (fun q => q ∈ ad) U U.heap ∧ va_Zq "jdk/internal/util/Preconditions" "SIOOBE_FORMATTER" "Ljava/util/function/BiFunction;" (fun q => q ∈ ad) U U.heap
def zR (a : Nat → Nat) (U : State) : Prop := vk_R "StoryMachine$Printer" 53 "0123456789.,!?_#'\"/\\-:()" (a 105) U ∧ vk_R "StoryMachine$Dictionary" 66 "0123456789.,!?_#'\"/\\-:()" (a 105) U
def zS (a : Nat → Nat) (ad : List Nat) (U : State) : Prop := ts_St U ∧ (∀ k, k < 5 → zT a ad U k) ∧ zG a ad U ∧ zC ad U ∧ zR a U
def tzP (D : va_G) (cl : List vw_C) (cI cJ : ClassId) (sh : sh_W) (a : Nat → Nat) (ad : List Nat) (av : List Value) (sz : Nat) : Array Value → State → Prop := va_Pc av (fun U => U.heap.size = sz ∧ sh_I D cl cI cJ sh U.heap ∧ va_K D cl [(cI, .int), (cJ, .long)] U ∧ zS a ad U)
theorem sh_in {sh : sh_W} {ad : List Nat} {A : Nat → Prop} (h : sh.map (fun x => x.1) = ad) (hA : ∀ q ∈ ad, A q) : ∀ (k : Nat) (x : Nat × sh_C), sh[k]? = some x → A x.1 := by
  intro k x hk
  refine hA _ ?_
  rw [← h]
  exact List.mem_map_of_mem (List.mem_of_getElem? hk)
theorem ga_sub {ad : List Nat} {A : Nat → Prop} {H0 H : Heap} {locs : List Loc} (hA : ∀ q ∈ ad, A q) (hA0 : ∀ q, H0.size ≤ q → A q) (hS : va_S A H0 H locs) : ∀ q, ga ad H.size q → A q :=
  fun q h => h.elim (hA q) (fun z => hA0 q (Nat.le_trans hS.1 z))
theorem zS_keep {a : Nat → Nat} {ad : List Nat} {s U : State} (hW : s.WarmedH U.vm) (hk : ∀ (q : Nat) (cell : Cell), s.heap[q]? = some cell → q ∉ ad → U.heap[q]? = some cell) (hno : ∀ (q : Nat) (cell : Cell), s.heap[q]? = some cell → q ∈ ad → cell.vm.isStatics = false) (h : zS a ad s) : zS a ad U := by
  have hq : ∀ b : Nat, b < s.heap.size → ¬ (b ∈ ad) → U.heap[b]? = s.heap[b]? := fun b hb hn => by
    rw [hk b _ (Array.getElem?_eq_getElem hb) hn, Array.getElem?_eq_getElem hb]
  obtain ⟨h1, h2, ⟨g1, g2, g3, f, g4⟩, ⟨c1, c2⟩, r1, r2⟩ := h
  refine ⟨ts_keep hW (fun q cell h1 h2 => hk q cell h1 (fun z => by rw [hno q cell h1 z] at h2; cases h2)) h1, fun k hk => ?_, ⟨(va_O.moved hW.alike g1).kept hq, (va_OF.moved hW.alike g2).kept hq, (va_OF.moved hW.alike g3).kept hq, f, (va_T.moved hW.alike g4).kept hq⟩, ⟨(va_Z.moved hW.alike c1).kept hq, (va_Zq.moved hW.alike c2).kept hq⟩, vk_R.warm hW r1, vk_R.warm hW r2⟩
  obtain ⟨t1, f, t2, t3⟩ := h2 k hk
  exact ⟨(va_Z.moved hW.alike t1).kept hq, f, t2, (va_T.moved hW.alike t3).kept hq⟩
/-- what a cell outside the shape is to a method's frame -/
theorem ga_out {ad : List Nat} {n q : Nat} (h : q < n) (h1 : ¬ q ∈ ad) : ¬ ga ad n q := fun z => z.elim h1 (fun w => Nat.not_le.mpr h w)
theorem zw_Z {C n d : String} {v : Value} {ad : List Nat} {U : State} (h : va_Z C n d v (fun q => q ∈ ad) U U.heap) : va_Z C n d v (ga ad U.heap.size) U U.heap := by
  obtain ⟨cf, kf, fi, f, a, cell, h1, h2, h3, h4, h5, h6, h7, h8⟩ := h
  exact ⟨cf, kf, fi, f, a, cell, h1, h2, h3, h4, h5, h6, h7, ga_out (Array.getElem?_eq_some_iff.mp h5).1 h8⟩
theorem zw_T {ty : FieldType} {t N : Nat} {f : Nat → Value} {ad : List Nat} {U : State} (h : va_T ty t N f (fun q => q ∈ ad) U U.heap) : va_T ty t N f (ga ad U.heap.size) U U.heap := by
  obtain ⟨cell, h1, h2, h3, h4, h5, h6, h7⟩ := h
  exact ⟨cell, h1, h2, h3, h4, h5, h6, ga_out (Array.getElem?_eq_some_iff.mp h1).1 h7⟩
theorem zw_O {E : String} {t : Nat} {ad : List Nat} {U : State} (h : va_O E t (fun q => q ∈ ad) U U.heap) : va_O E t (ga ad U.heap.size) U U.heap := by
  obtain ⟨cell, h1, h2, h3, h4⟩ := h
  exact ⟨cell, h1, h2, h3, ga_out (Array.getElem?_eq_some_iff.mp h1).1 h4⟩
theorem zw_OF {o n d : String} {v : Value} {t : Nat} {ad : List Nat} {U : State} (h : va_OF o n d v t (fun q => q ∈ ad) U U.heap) : va_OF o n d v t (ga ad U.heap.size) U U.heap := by
  obtain ⟨cf, k, i, f, cell, h1, h2, h3, h4, h5, h6⟩ := h
  exact ⟨cf, k, i, f, cell, h1, h2, h3, h4, h5, ga_out (Array.getElem?_eq_some_iff.mp h3).1 h6⟩
/-- no cell of a shape holds statics -/
theorem sh_nost {D : va_G} {cl : List vw_C} {cI cJ : ClassId} {sh : sh_W} {ad : List Nat} {H : Heap} (hm : sh.map (fun x => x.1) = ad) (h : sh_I D cl cI cJ sh H) : ∀ (q : Nat) (cell : Cell), H[q]? = some cell → q ∈ ad → cell.vm.isStatics = false := by
  intro q cell hq hin
  rw [← hm] at hin
  obtain ⟨x, hx, rfl⟩ := List.mem_map.mp hin
  obtain ⟨k, hk⟩ := List.getElem?_of_mem hx
  obtain ⟨ws, hok, hP, hD⟩ := h
  obtain ⟨e, h1, h2⟩ := hok.2 k x hk
  have h3 := hP k _ h1
  cases e with
  | inl y =>
    have h4 : H[x.1]? = some (vp_cell y.1 y.2) := h3
    rw [hq] at h4
    cases h4
    obtain ⟨cA, n, f | f | f | f | f⟩ := y <;> rfl
  | inr y =>
    obtain ⟨r, h4, cell', q1, q2, q3, q4⟩ := h3
    have q1' : H[x.1]? = some cell' := q1
    rw [hq] at q1'
    cases q1'
    rw [q3]
    rfl
theorem zS_all {a : Nat → Nat} {D : va_G} {cl : List vw_C} {cI cJ : ClassId} {sh : sh_W} {ad : List Nat} {s U : State} {H : Heap} {locs : List Loc} (hm : sh.map (fun x => x.1) = ad) (hI : sh_I D cl cI cJ sh s.heap) (hz : zS a ad s) (hS : va_S (ga ad s.heap.size) s.heap H locs) (hU : U.heap = H) (hW : s.WarmedH U.vm) : zS a ad U := by
  refine zS_keep hW (fun q cell h1 h2 => ?_) (sh_nost hm hI) hz
  have hlt : q < s.heap.size := (Array.getElem?_eq_some_iff.mp h1).1
  rw [hU, hS.2.1 q hlt (fun z => z.elim h2 (fun w => by omega)), h1]
theorem tz_blind {a : Nat → Nat} {D : va_G} {cl : List vw_C} {cI cJ : ClassId} {sh : sh_W} {ad : List Nat} {av : List Value} {sz : Nat} : FrameBlind (tzP D cl cI cJ sh a ad av sz) := by
  intro b U g mk q
  obtain ⟨q0, q1, qP, qK, qS⟩ := q
  refine ⟨q0, q1, qP, va_K.moved (u := U) (U := U.calling g mk b) (Vm.Alike.refl U.vm) qK, ?_⟩
  obtain ⟨h1, h2, ⟨g1, g2, g3, f, g4⟩, ⟨c1, c2⟩, r1, r2⟩ := qS
  have hv : U.vm.Alike (U.calling g mk b).vm := Vm.Alike.refl U.vm
  refine ⟨ts_keep (s := U) (U := U.calling g mk b) (State.WarmedH.refl U) (fun _ _ h _ => h) h1, fun k hk => ?_, ⟨va_O.moved hv g1, va_OF.moved hv g2, va_OF.moved hv g3, f, va_T.moved hv g4⟩, ⟨va_Z.moved hv c1, va_Zq.moved hv c2⟩, vk_R.same (u := U) rfl r1, vk_R.same (u := U) rfl r2⟩
  obtain ⟨t1, f, t2, t3⟩ := h2 k hk
  exact ⟨va_Z.moved hv t1, f, t2, va_T.moved hv t3⟩
theorem sn_bool {x : Int32} (h1 : 0 ≤ x.toInt) (h2 : x.toInt ≤ 1) : narrow .boolean (.int x) = .int x ∧ fits .boolean (.int x) = true := by
  have h : x = 0 ∨ x = 1 := by
    have h3 : x.toInt = 0 ∨ x.toInt = 1 := by omega
    rcases h3 with h | h
    · exact Or.inl (sn_lit h)
    · exact Or.inr (sn_lit h)
  rcases h with rfl | rfl
  · exact ⟨rfl, rfl⟩
  · exact ⟨rfl, rfl⟩
theorem sh_kept {D : va_G} {cl : List vw_C} {cI cJ : ClassId} {sh : sh_W} {H H1 : Heap} (h : sh_I D cl cI cJ sh H) (hk : ∀ q : Nat, q < H.size → H1[q]? = H[q]?) : sh_I D cl cI cJ sh H1 := by
  obtain ⟨ws, hok, hP, hD⟩ := h
  exact ⟨ws, hok, hP.kept (fun k q hq => hk q.1 (hP k q hq).lt), hD⟩
theorem ta_exm {X : String} {x : Addr} {s t t9 : State} {H : Heap} (h : ta_Ex X x t) (ht : t.heap = H) (ht9 : t9.heap = H) (hW : s.WarmedH t.vm) (hW9 : s.WarmedH t9.vm) : ta_Ex X x t9 := by
  obtain ⟨ce, h1, h2, h3⟩ := h
  refine ⟨ce, by rw [ht9, ← ht]; exact h1, ?_, h3⟩
  rw [hW9.alike.findClass, ← hW.alike.findClass]
  exact h2
section SS
variable {p : Program} {l : Launch} {e : Env} {R : Room} {s : State} {m : MethodId} {args : Array Value} {below : List Frame} {meth : Method} {c : Code} {H H0 : Heap} {locs : List Loc} {cells slots : Nat} {Q : State → Prop} {D : va_G} {cl : List vw_C} {A : Nat → Prop} {cI cJ : ClassId} {sh : sh_W} {g : JFrame}
theorem sv_start (hI : sI D cl cI cJ sh A H0 H locs) (kk : ∀ (H : Heap) (locs : List Loc), sI D cl cI cJ sh A H0 H locs → W p l e R s m args below meth c H locs cells slots Q g) : W p l e R s m args below meth c H locs cells slots Q g := kk H locs hI
end SS
