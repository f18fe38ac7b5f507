/-! A method's start over a shape; what is carried beside it. -/
def slw (sf lf : Nat → Int32) : Prop := ∀ j, 0 ≤ (sf j).toInt ∧ (sf j).toInt + (lf j).toInt ≤ 24
def zS (_ : List Nat) (U : State) : Prop := ts_St U
def tzP (D : va_G) (cl : List vw_C) (cI cJ : ClassId) (sh : sh_W) (ad : List Nat) (av : List Value) (sz : Nat) : Array Value → State → Prop := va_Pc av (fun U => U.heap.size = sz ∧ sh_I D cl cI cJ sh U.heap ∧ va_K D cl [(cI, .int), (cJ, .long)] U ∧ zS ad U)
theorem sh_in {sh : sh_W} {ad : List Nat} {A : Nat → Prop} (h : sh.map (fun x => x.1) = ad) (hA : ∀ q ∈ ad, A q) : ∀ (k : Nat) (x : Nat × sh_C), sh[k]? = some x → A x.1 := by
  intro k x hk
  refine hA _ ?_
  rw [← h]
  exact List.mem_map_of_mem (List.mem_of_getElem? hk)
theorem ga_sub {ad : List Nat} {A : Nat → Prop} {H0 H : Heap} {locs : List Loc} (hA : ∀ q ∈ ad, A q) (hA0 : ∀ q, H0.size ≤ q → A q) (hS : va_S A H0 H locs) : ∀ q, ga ad H.size q → A q :=
  fun q h => h.elim (hA q) (fun z => hA0 q (Nat.le_trans hS.1 z))
theorem zS_keep {ad : List Nat} {s U : State} (hW : s.WarmedH U.vm) (hk : ∀ (q : Nat) (cell : Cell), s.heap[q]? = some cell → q ∉ ad → U.heap[q]? = some cell) (hno : ∀ (q : Nat) (cell : Cell), s.heap[q]? = some cell → q ∈ ad → cell.vm.isStatics = false) (h : zS ad s) : zS ad U :=
  ts_keep hW (fun q cell h1 h2 => hk q cell h1 (fun z => by rw [hno q cell h1 z] at h2; cases h2)) h
/-- no cell of a shape holds statics -/
theorem sh_nost {D : va_G} {cl : List vw_C} {cI cJ : ClassId} {sh : sh_W} {ad : List Nat} {H : Heap} (hm : sh.map (fun x => x.1) = ad) (h : sh_I D cl cI cJ sh H) : ∀ (q : Nat) (cell : Cell), H[q]? = some cell → q ∈ ad → cell.vm.isStatics = false := by
  intro q cell hq hin
  rw [← hm] at hin
  obtain ⟨x, hx, rfl⟩ := List.mem_map.mp hin
  obtain ⟨k, hk⟩ := List.getElem?_of_mem hx
  obtain ⟨ws, hok, hP, hD⟩ := h
  obtain ⟨e, h1, h2⟩ := hok.2 k x hk
  have h3 := hP k _ h1
  cases e with
  | inl y =>
    have h4 : H[x.1]? = some (vp_cell y.1 y.2) := h3
    rw [hq] at h4
    cases h4
    obtain ⟨cA, n, f | f | f | f | f⟩ := y <;> rfl
  | inr y =>
    obtain ⟨r, h4, cell', q1, q2, q3, q4⟩ := h3
    have q1' : H[x.1]? = some cell' := q1
    rw [hq] at q1'
    cases q1'
    rw [q3]
    rfl
theorem zS_all {D : va_G} {cl : List vw_C} {cI cJ : ClassId} {sh : sh_W} {ad : List Nat} {s U : State} {H : Heap} {locs : List Loc} (hm : sh.map (fun x => x.1) = ad) (hI : sh_I D cl cI cJ sh s.heap) (hz : zS ad s) (hS : va_S (ga ad s.heap.size) s.heap H locs) (hU : U.heap = H) (hW : s.WarmedH U.vm) : zS ad U := by
  refine zS_keep hW (fun q cell h1 h2 => ?_) (sh_nost hm hI) hz
  have hlt : q < s.heap.size := (Array.getElem?_eq_some_iff.mp h1).1
  rw [hU, hS.2.1 q hlt (fun z => z.elim h2 (fun w => by omega)), h1]
theorem tz_blind {D : va_G} {cl : List vw_C} {cI cJ : ClassId} {sh : sh_W} {ad : List Nat} {av : List Value} {sz : Nat} : FrameBlind (tzP D cl cI cJ sh ad av sz) := by
  intro a U g mk q
  obtain ⟨q0, q1, qP, qK, qS⟩ := q
  exact ⟨q0, q1, qP, va_K.moved (u := U) (U := U.calling g mk a) (Vm.Alike.refl U.vm) qK, ts_keep (s := U) (U := U.calling g mk a) (State.WarmedH.refl U) (fun _ _ h _ => h) qS⟩
theorem sn_bool {x : Int32} (h1 : 0 ≤ x.toInt) (h2 : x.toInt ≤ 1) : narrow .boolean (.int x) = .int x ∧ fits .boolean (.int x) = true := by
  have h : x = 0 ∨ x = 1 := by
    have h3 : x.toInt = 0 ∨ x.toInt = 1 := by omega
    rcases h3 with h | h
    · exact Or.inl (sn_lit h)
    · exact Or.inr (sn_lit h)
  rcases h with rfl | rfl
  · exact ⟨rfl, rfl⟩
  · exact ⟨rfl, rfl⟩
theorem sh_kept {D : va_G} {cl : List vw_C} {cI cJ : ClassId} {sh : sh_W} {H H1 : Heap} (h : sh_I D cl cI cJ sh H) (hk : ∀ q : Nat, q < H.size → H1[q]? = H[q]?) : sh_I D cl cI cJ sh H1 := by
  obtain ⟨ws, hok, hP, hD⟩ := h
  exact ⟨ws, hok, hP.kept (fun k q hq => hk q.1 (hP k q hq).lt), hD⟩
theorem ta_exm {X : String} {x : Addr} {s t t9 : State} {H : Heap} (h : ta_Ex X x t) (ht : t.heap = H) (ht9 : t9.heap = H) (hW : s.WarmedH t.vm) (hW9 : s.WarmedH t9.vm) : ta_Ex X x t9 := by
  obtain ⟨ce, h1, h2, h3⟩ := h
  refine ⟨ce, by rw [ht9, ← ht]; exact h1, ?_, h3⟩
  rw [hW9.alike.findClass, ← hW.alike.findClass]
  exact h2
section SS
variable {p : Program} {l : Launch} {e : Env} {R : Room} {s : State} {m : MethodId} {args : Array Value} {below : List Frame} {meth : Method} {c : Code} {H H0 : Heap} {locs : List Loc} {cells slots : Nat} {Q : State → Prop} {D : va_G} {cl : List vw_C} {A : Nat → Prop} {cI cJ : ClassId} {sh : sh_W} {g : JFrame}
theorem sv_start (hI : sI D cl cI cJ sh A H0 H locs) (kk : ∀ (H : Heap) (locs : List Loc), sI D cl cI cJ sh A H0 H locs → W p l e R s m args below meth c H locs cells slots Q g) : W p l e R s m args below meth c H locs cells slots Q g := kk H locs hI
end SS
