/-! What Throwable's statics hold: two references or null. It hangs on the tables and on one cell that nobody here writes. -/
abbrev ts_words : List Cond := [.laysStatic Bundle.tN "UNASSIGNED_STACK" Bundle.steD, .laysStatic Bundle.tN "SUPPRESSED_SENTINEL" Bundle.listD, .isRef (.static Bundle.tN "UNASSIGNED_STACK" Bundle.steD), .isRef (.static Bundle.tN "SUPPRESSED_SENTINEL" Bundle.listD), .not (.castable "java/lang/IllegalStateException" "java/lang/IllegalArgumentException"), .not (.castable "java/lang/ArithmeticException" "java/lang/IllegalArgumentException"), .not (.castable "java/lang/ArithmeticException" "java/lang/IllegalStateException"), .not (.castable "java/lang/UnsupportedOperationException" "java/lang/IllegalArgumentException"), .not (.castable "java/lang/UnsupportedOperationException" "java/lang/IllegalStateException"), .not (.castable "java/lang/UnsupportedOperationException" "java/lang/ArithmeticException")]
def ts_St (U : State) : Prop := ∀ (a : Array Value), ∀ w ∈ ts_words, w.before a U = true
theorem ts_lays {s U : State} {o n d : String} {a : Array Value} (hW : s.WarmedH U.vm) (hk : ∀ (q : Nat) (cell : Cell), s.heap[q]? = some cell → cell.vm.isStatics = true → U.heap[q]? = some cell) (h : (Cond.laysStatic o n d).before a s = true) : (Cond.laysStatic o n d).before a U = true := by
  have h1 : (Cond.laysStatic o n d).before a (s.setVm U.vm) = true := Cond.holds_shifted (State.Shifted.of_warmed hW) _ [] rfl h
  have e1 : (s.setVm U.vm).vm.findClass o = U.vm.findClass o := rfl
  have e2 : (s.setVm U.vm).fieldFound? o n d = U.fieldFound? o n d := rfl
  have e3 : (s.setVm U.vm).heap = s.heap := rfl
  simp only [Cond.before, Cond.holds, Cond.value, e1, e2, e3] at h1 ⊢
  cases hc : U.vm.findClass o with
  | none => simp [hc] at h1
  | some c =>
    cases hf : U.fieldFound? o n d with
    | none => simp [hc, hf] at h1
    | some r =>
      obtain ⟨c', k, i, f⟩ := r
      cases hst : k.statics with
      | none => simp [hc, hf, hst] at h1
      | some q =>
        cases hh : s.heap[q]? with
        | none => simp [hc, hf, hst, hh] at h1
        | some cell =>
          simp only [hc, hf, hst, hh, Option.bind_some, Option.map_some] at h1 ⊢
          have hi : cell.vm.isStatics = true := by
            cases hv : cell.vm.isStatics with
            | true => rfl
            | false => simp [hv] at h1
          rw [hk q cell hh hi]
          exact h1
theorem ts_isRef {s U : State} {o n d : String} {a : Array Value} (hW : s.WarmedH U.vm) (hk : ∀ (q : Nat) (cell : Cell), s.heap[q]? = some cell → cell.vm.isStatics = true → U.heap[q]? = some cell) (h : (Cond.isRef (.static o n d)).before a s = true) : (Cond.isRef (.static o n d)).before a U = true := by
  have h1 : (Cond.isRef (.static o n d)).before a (s.setVm U.vm) = true := Cond.holds_shifted (State.Shifted.of_warmed hW) _ [] rfl h
  have e2 : (s.setVm U.vm).fieldNamed? o n d true = U.fieldNamed? o n d true := rfl
  have e3 : (s.setVm U.vm).heap = s.heap := rfl
  have key : ∀ v, (Term.static o n d).eval a (s.setVm U.vm) none [] (s.setVm U.vm) = some v → (Term.static o n d).eval a U none [] U = some v := by
    intro v hv
    simp only [Term.eval, e2, e3] at hv ⊢
    cases hf : U.fieldNamed? o n d true with
    | none => simp [hf] at hv
    | some r =>
      obtain ⟨c', k, i⟩ := r
      cases hst : k.statics with
      | none => simp [hf, hst] at hv
      | some q =>
        cases hh : s.heap[q]? with
        | none => simp [hf, hst, hh] at hv
        | some cell =>
          cases hi : cell.vm.isStatics with
          | false => simp [hf, hst, hh, hi] at hv
          | true =>
            simp only [hf, hst, hh, hi, hk q cell hh hi, Option.bind_eq_bind, Option.bind_some] at hv ⊢
            exact hv
  simp only [Cond.before, Cond.holds, Cond.value] at h1 ⊢
  cases hv : (Term.static o n d).eval a (s.setVm U.vm) none [] (s.setVm U.vm) with
  | none => simp [hv] at h1
  | some v =>
    rw [key v hv]
    simpa [hv] using h1
theorem ts_keep {s U : State} (hW : s.WarmedH U.vm) (hk : ∀ (q : Nat) (cell : Cell), s.heap[q]? = some cell → cell.vm.isStatics = true → U.heap[q]? = some cell) (h : ts_St s) : ts_St U := by
  intro a w hw
  have hs := h a w hw
  simp only [ts_words, List.mem_cons, List.not_mem_nil, or_false] at hw
  rcases hw with rfl | rfl | rfl | rfl | rfl | rfl | rfl | rfl | rfl | rfl
  · exact ts_lays hW hk hs
  · exact ts_lays hW hk hs
  · exact ts_isRef hW hk hs
  · exact ts_isRef hW hk hs
  · exact Cond.castAtom_setVm (s := s) hW.alike _ rfl hs
  · exact Cond.castAtom_setVm (s := s) hW.alike _ rfl hs
  · exact Cond.castAtom_setVm (s := s) hW.alike _ rfl hs
  · exact Cond.castAtom_setVm (s := s) hW.alike _ rfl hs
  · exact Cond.castAtom_setVm (s := s) hW.alike _ rfl hs
  · exact Cond.castAtom_setVm (s := s) hW.alike _ rfl hs
/-- a world holds no cell of statics; so what a method changes of it leaves the statics as they are -/
theorem ts_va {D : va_G} {cl : List vw_C} {ws : va_W} {H0 H : Heap} {locs : List Loc} (hP : va_P D cl ws H0) (hS : va_S (va_A ws H0.size) H0 H locs) : ∀ (q : Nat) (cell : Cell), H0[q]? = some cell → cell.vm.isStatics = true → H[q]? = some cell := by
  intro q cell hq hi
  have hlt : q < H0.size := (Array.getElem?_eq_some_iff.mp hq).1
  rw [hS.2.1 q hlt, hq]
  rintro (⟨k, E, hk⟩ | h)
  · have h1 := hP k _ hk
    cases E with
    | inl x =>
      have h2 : H0[q]? = some (vp_cell x.1 x.2) := h1
      rw [hq] at h2
      cases h2
      obtain ⟨cA, n, f | f | f | f | f⟩ := x <;> cases hi
    | inr x =>
      obtain ⟨r, h2, cell', q1, q2, q3, q4⟩ := h1
      rw [hq] at q1
      cases q1
      rw [q3] at hi
      cases hi
  · omega
