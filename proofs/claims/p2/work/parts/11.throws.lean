/-! A throw, a call of a method with either end, and what becomes of an exception in the caller. -/
theorem tx_kept {s t : State} {k n : Nat} (h : s.sameButNew t [] k n) : ∀ q : Nat, q < s.heap.size → t.heap[q]? = s.heap[q]? := by
  intro q hq
  obtain ⟨-, -, -, -, -, h6⟩ := h
  have hc : s.heap[q]? = some s.heap[q] := Array.getElem?_eq_getElem hq
  obtain ⟨c', h1, h2, h3, h4⟩ := h6 q _ hc
  have he : c'.slots = (s.heap[q]).slots := Array.ext_getElem? (fun i => h4 i (by simp))
  rw [h1, hc, h2, he]
section TX2
variable {p : Program} {l : Launch} {e : Env} {R : Room} {s : State} {m : MethodId} {args : Array Value} {below : List Frame} {meth : Method} {c : Code} {H : Heap} {locs : List Loc} {cells slots : Nat}
/-- an exception is on its way over the frame g -/
def tx_Th (p : Program) (l : Launch) (e : Env) (R : Room) (s : State) (m : MethodId) (args : Array Value) (below : List Frame) (meth : Method) (c : Code) (H : Heap) (locs : List Loc) (cells slots : Nat) (Q : State → Prop) (g : JFrame) (x : Addr) : Prop :=
  ∀ T : State, T.heap = H → Stand p l e R s m args below meth c T locs cells slots → ∃ t, Steps p.tables e below ((T.setTop g).pushFrame (.throwing x)) t ∧ Q t
theorem tx_leave {Qc : Array Value → State → Outcome → State → Prop} {free : Addr → Prop} {pc : Nat} {ls : Array Slot} {st : List Value} {x : Addr} (hout : ∀ h ∈ c.exceptionTable.toList, covers h pc = false)
    (hq : ∀ t : State, t.heap = H → s.WarmedH t.vm → Qc args s (.threw x) t) (hf : ∀ q ∈ locs, free q.base) (hlocks : meth.locks = false) :
    tx_Th p l e R s m args below meth c H locs cells slots (tx_MQ below Qc args s cells slots free) (F0 m pc ls st) x := by
  intro T hT X
  obtain ⟨st1, hrun, hend, hW, hsame⟩ := X.leaveThrown x (g := F0 m pc ls st) rfl rfl rfl hout hlocks
  exact ⟨_, st1, .threw x, hrun, hend, hq _ hT hW, locs, ⟨hW, hsame⟩, hf⟩
set_option maxHeartbeats 4000000 in
/-- new X; dup; X.<init>(); athrow, in a method that does not catch it there -/
theorem tx_throw {cc : ByteArray} (hexec : p.tables.exec = Jvm.exec) (hb : c.code = cc) (hfl : l.flags = pinnedFlags ++ [noTraceFlag]) {own X : String} {names : List String} {ic ix : Nat} (hown : s.vm.findClass own = some m.cls)
    (hX : Bundle.fit X = true) (hnames : ∀ n ∈ names, Bundle.fit n = true)
    (hat : ∀ U : State, U.heap = H → s.WarmedH U.vm → (∀ a ∈ Bundle.ownAtoms0 own ic X names, a.before args U = true) ∧ (Cond.classLink own ix X).before args U = true ∧ (Cond.initialized X).before args U = true)
    {Qc : Array Value → State → Outcome → State → Prop} {free : Addr → Prop} {pc : Nat} {ls : Array Slot} {rest : List Value} (hsize : ls.size = c.maxLocals)
    (d0 : decode cc pc = .ok (.new ix, 3)) (d3 : decode cc (pc + 3) = .ok (.dup, 1)) (d4 : decode cc (pc + 3 + 1) = .ok (.invokespecial ic, 3)) (d7 : decode cc (pc + 3 + 1 + 3) = .ok (.athrow, 1))
    (hout : ∀ x ∈ c.exceptionTable.toList, covers x (pc + 3 + 1 + 3) = false)
    (hc : cells + 1 ≤ R.cells) (hsl : slots + 6 ≤ R.slots) (hRf : names.length + 3 < R.frames) (hRl : (rest.map fun v => v.category).sum + (13 * (names.length + 1) + 42) ≤ R.locals)
    (hq : ∀ (t : State) (ce : Cell), s.WarmedH t.vm → t.heap.size = H.size + 1 → (∀ q : Nat, q < H.size → t.heap[q]? = H[q]?) → t.heap[H.size]? = some ce → t.vm.findClass X = some ce.cls → ce.vm = .none → Qc args s (.threw H.size) t) (hf : ∀ q ∈ locs, free q.base) (hlocks : meth.locks = false) :
    W p l e R s m args below meth c H locs cells slots (tx_MQ below Qc args s (cells + 1) (slots + 6) free) (F0 m pc ls rest) := by
  intro T hT XS
  have htr : e.platform.stackTraces = false := Launch.traces_off hfl XS.admits
  have X0 := tx_restart XS (R' := { frames := R.frames, locals := R.locals, cells := 1, slots := 6 }) (Nat.le_refl _) (Nat.le_refl _) hc hsl
  have hown' : (T.setFrames (.invoking m args :: below)).vm.findClass own = some m.cls := by
    show T.vm.findClass own = _
    rw [XS.warmed.alike.findClass]; exact hown
  obtain ⟨ha, hl, hi⟩ := hat (T.setFrames (.invoking m args :: below)) hT XS.warmed
  generalize hs' : T.setFrames (.invoking m args :: below) = s' at X0 hown' ha hl hi
  have hins : (Cond.instantiable X 6).before args s' = true := ha _ (by simp [Bundle.ownAtoms0])
  obtain ⟨cX, kX0, hfc, hkX0, -⟩ := Cond.instantiable_spec hins
  have hsz' : s'.heap = T.heap := by rw [← hs']; rfl
  have w : W p l e { frames := R.frames, locals := R.locals, cells := 1, slots := 6 } s' m args below meth c T.heap [] 0 0
      (fun U => U.status = .running ∧ Ended U below (.threw T.heap.size) ∧ s'.WarmedH U.vm ∧ s'.sameButNew ({ U with vm := s'.vm } : State) [] 1 6 ∧ ∃ ce, U.heap[T.heap.size]? = some ce ∧ Bundle.OwnCell args s' X T.heap.size .null ce) (F0 m pc ls rest) := by
    refine W.newcK hexec hb hown' hl hins hi rfl d0 (Nat.le_refl 1) (Nat.le_refl 6) hfc rfl fun H' kC hkC e1 z1 o1 => ?_
    refine lv_dup hexec hb d3 rfl ?_
    intro T2 hT2 X2
    obtain ⟨U, st, h1, h2, h3, h4, ce, h5, h6⟩ := X2.ctorThrow0 hexec htr hown' hX hnames ha (fun x hx => by cases hx) hfc hkC (a := T.heap.size) (by rw [hT2]; exact e1) (by rw [hsz']; exact Nat.le_refl _)
      (g := F0 m (pc + 3 + 1) ls (.ref T.heap.size :: .ref T.heap.size :: rest)) rfl hsize rfl rfl rfl (by rw [hb]; exact d4) (by rw [hb]; exact d7) hout hRf
      (by simp only [List.map_cons, List.sum_cons, Value.category, JFrame.monitorRoom] at *; omega) hlocks
    exact ⟨U, st, h1, h2, h3, h4, ce, h5, h6⟩
  obtain ⟨U, st, h1, h2, h3, h4, ce, h5, h6⟩ := w T rfl X0
  have hE : tx_End s U locs (cells + 1) (slots + 6) := by
    subst hs'
    exact tx_same XS _ h3 h4
  have hkept : ∀ q : Nat, q < T.heap.size → U.heap[q]? = T.heap[q]? := by
    have := tx_kept h4
    rw [hsz'] at this
    exact this
  have hlt : T.heap.size < U.heap.size := (Array.getElem?_eq_some_iff.mp h5).1
  have hle : U.heap.size ≤ T.heap.size + 1 := by
    have := h4.2.2.1
    rw [hsz'] at this
    exact this
  subst hT
  refine ⟨U, st, .threw T.heap.size, h1, h2, hq U ce hE.1 (by omega) hkept h5 ?_ h6.vm, locs, hE, hf⟩
  rw [h3.alike.findClass]
  exact h6.cls
end TX2
