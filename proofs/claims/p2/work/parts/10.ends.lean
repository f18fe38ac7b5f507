/-! Both ends of a method: it returned, or it threw. tx_Met is a contract of either end; tx_Th: an exception is on its way over a frame. -/
def tx_End (first t : State) (L : List Loc) (k n : Nat) : Prop := first.WarmedH t.vm ∧ first.sameButNew ({ t with vm := first.vm } : State) L k n
def tx_Met (l : Launch) (y : MethodName) (ws : List Cond) (rm : Room) (Pc : Array Value → State → Prop) (Qc : Array Value → State → Outcome → State → Prop) (mc ms : Nat) (free : Addr → Prop) : Prop :=
  MetFree l y (headSpec ws rm) Pc (fun _ _ _ _ _ => True) (fun a st o t => Qc a st o t ∧ ∃ L, tx_End st t L mc ms ∧ ∀ q ∈ L, free q.base)
def tx_MQ (below : List Frame) (Qc : Array Value → State → Outcome → State → Prop) (a : Array Value) (s : State) (mc ms : Nat) (free : Addr → Prop) : State → Prop := fun t =>
  ∃ o, t.status = .running ∧ Ended t below o ∧ Qc a s o t ∧ ∃ L, tx_End s t L mc ms ∧ ∀ q ∈ L, free q.base
/-- what a caller knows of a callee's code, with or without handlers -/
def tx_code (y : MethodName) (maxL : Nat) (s : State) : Prop := ∃ (mk : MethodId) (me : Method) (cM : Code), s.methodNamed? y = some mk ∧ s.vm.method? mk = some me ∧ me.code = some cM ∧ cM.maxLocals = maxL ∧ me.locks = false ∧ parseMethodDescriptor y.desc = some me.sig
theorem tx_code.of {y : MethodName} {cc : ByteArray} {maxL : Nat} {ret : Option FieldType} {args : Array Value} {s : State} (h : (Cond.code y cc maxL ret).before args s = true) : tx_code y maxL s := by
  obtain ⟨mk, hn⟩ := Cond.code_named h
  obtain ⟨me, cM, h1, h2, h3, h4, h5, h6, h7, h8⟩ := Cond.code_spec hn h
  exact ⟨mk, me, cM, hn, h1, h2, h4, h6, h8⟩
theorem tx_code.ofW {y : MethodName} {cc : ByteArray} {maxL : Nat} {ret : Option FieldType} {hs : List (Nat × Nat × Nat × Nat)} {args : Array Value} {s : State} (h : (Cond.codeWith y cc maxL ret hs).before args s = true) : tx_code y maxL s := by
  obtain ⟨mk, me, cM, h0, h1, h2, h3, h4, h5, h6, h7, h8⟩ := Cond.codeWith_spec h
  exact ⟨mk, me, cM, h0, h1, h2, h4, h7, h8⟩
section TX1
variable {p : Program} {l : Launch} {e : Env} {R : Room} {s : State} {m : MethodId} {args : Array Value} {below : List Frame} {meth : Method} {c : Code} {H : Heap} {locs : List Loc} {cells slots : Nat}
theorem tx_mono {Q Q' : State → Prop} {g : JFrame} (h : ∀ t, Q t → Q' t) (k : W p l e R s m args below meth c H locs cells slots Q g) : W p l e R s m args below meth c H locs cells slots Q' g := by
  intro T hT X
  obtain ⟨t, a, b⟩ := k T hT X
  exact ⟨t, a, h t b⟩
theorem tx_ret {Qc : Array Value → State → Outcome → State → Prop} {mc ms : Nat} {free : Addr → Prop} {g : JFrame} (k : W p l e R s m args below meth c H locs cells slots (MQ below Qc args s mc ms free) g) :
    W p l e R s m args below meth c H locs cells slots (tx_MQ below Qc args s mc ms free) g := by
  refine tx_mono (fun t h => ?_) k
  obtain ⟨o, h1, h2, h3, L, h4, h5⟩ := h
  exact ⟨o, h1, h2, h3, L, ⟨h4.2.1, h4.2.2⟩, h5⟩
theorem tx_of {y : MethodName} {ws : List Cond} {rm : Room} {Pc : Array Value → State → Prop} {Qc : Array Value → State → Outcome → State → Prop} {mc ms : Nat} {free : Addr → Prop} (h : Met l y ws rm Pc Qc mc ms free) : tx_Met l y ws rm Pc Qc mc ms free := by
  intro p e ha hc hk s m args below hf happ hP hK
  obtain ⟨n, o, h1, h2, h3, h4, L, h5, h6⟩ := h p e ha hc hk s m args below hf happ hP hK
  exact ⟨n, o, h1, h2, h3, h4, L, ⟨h5.2.1, h5.2.2⟩, h6⟩
theorem tx_ofW {y : MethodName} {ws : List Cond} {rm : Room} {Pc : Array Value → State → Prop} {Qc : Array Value → State → Outcome → State → Prop} {mc ms : Nat} {free : Addr → Prop} {cc : ByteArray} {maxL : Nat} {ret : Option FieldType}
    (hy : plainName y.cls = true)
    (his : ∀ args (s : State) m, (headSpec ws rm).pre.before args s = true → s.methodNamed? y = some m → ∃ meth c, s.vm.method? m = some meth ∧ meth.code = some c ∧ c.code = cc ∧ c.maxLocals = maxL ∧ meth.sig.returnType = ret ∧ meth.locks = false)
    (body : ∀ p e s m args below meth c s₁, BodyLoose p l y (headSpec ws rm) cc maxL ret e s m args below meth c s₁ → c.maxLocals = maxL → Pc args s →
      W p l e (headSpec ws rm).room s m args below meth c s.heap [] 0 0 (tx_MQ below Qc args s mc ms free) (entryFrame m args maxL)) : tx_Met l y ws rm Pc Qc mc ms free := by
  refine MetFree.of_bodyS (code := cc) (maxLocals := maxL) (ret := ret) hy his ?_
  intro p e s m args below meth c s₁ B hml hP _
  have hh0 : s₁.heap = s.heap := by rw [B.state]; rfl
  obtain ⟨t, a1, o, b1, b2, b3⟩ := body p e s m args below meth c s₁ B hml hP s₁ hh0 (Stand.of_body B)
  exact ⟨t, o, a1, b1, b2, ⟨b3.1, b3.2⟩⟩
theorem tx_is {y : MethodName} {ws ws' : List Cond} {rm : Room} {cc : ByteArray} {maxL : Nat} {ret : Option FieldType} (hw : ws = Cond.code y cc maxL ret :: ws') :
    ∀ args (s : State) m, (headSpec ws rm).pre.before args s = true → s.methodNamed? y = some m → ∃ meth c, s.vm.method? m = some meth ∧ meth.code = some c ∧ c.code = cc ∧ c.maxLocals = maxL ∧ meth.sig.returnType = ret ∧ meth.locks = false := by
  intro args s m h hn
  obtain ⟨meth, c, h1, h2, h3, h4, h5, h6, -, -⟩ := Cond.code_spec hn (atoms_spec (ws := ws) h _ (by rw [hw]; exact List.mem_cons_self))
  exact ⟨meth, c, h1, h2, h3, h4, h5, h6⟩
theorem tx_isW {y : MethodName} {ws ws' : List Cond} {rm : Room} {cc : ByteArray} {maxL : Nat} {ret : Option FieldType} {hs : List (Nat × Nat × Nat × Nat)} (hw : ws = Cond.codeWith y cc maxL ret hs :: ws') :
    ∀ args (s : State) m, (headSpec ws rm).pre.before args s = true → s.methodNamed? y = some m → ∃ meth c, s.vm.method? m = some meth ∧ meth.code = some c ∧ c.code = cc ∧ c.maxLocals = maxL ∧ meth.sig.returnType = ret ∧ meth.locks = false := by
  intro args s m h hn
  obtain ⟨m', meth, c, h0, h1, h2, h3, h4, h5, h6, h7, -⟩ := Cond.codeWith_spec (atoms_spec (ws := ws) h _ (by rw [hw]; exact List.mem_cons_self))
  cases hn.symm.trans h0
  exact ⟨meth, c, h1, h2, h3, h4, h6, h7⟩
/-- no handler in a method without a table -/
theorem tx_noH {y : MethodName} {S : Spec} {cc : ByteArray} {maxL : Nat} {ret : Option FieldType} {s₁ : State} (B : BodyLoose p l y S cc maxL ret e s m args below meth c s₁) (h : (Cond.code y cc maxL ret).before args s = true) (pc : Nat) : ∀ x ∈ c.exceptionTable.toList, covers x pc = false := by
  intro x hx
  have h1 := B.noHandlers h
  have h2 : c.exceptionTable.toList = [] := by
    have : c.exceptionTable = #[] := Array.isEmpty_iff.mp h1
    rw [this]
  rw [h2] at hx
  cases hx
theorem tx_tab {y : MethodName} {S : Spec} {cc : ByteArray} {maxL : Nat} {ret : Option FieldType} {hs : List (Nat × Nat × Nat × Nat)} {s₁ : State} (B : BodyLoose p l y S cc maxL ret e s m args below meth c s₁) (h : (Cond.codeWith y cc maxL ret hs).before args s = true) : c.exceptionTable.toList = tableOf hs := by
  obtain ⟨m', meth', c', h0, h1, h2, h3, h4, h5, -⟩ := Cond.codeWith_spec h
  cases B.named.symm.trans h0
  cases B.method.symm.trans h1
  cases (Stand.of_body B).code.symm.trans h2
  rw [← h5, table_eq]
/-- the walk stands anew: from here on nothing has moved yet -/
theorem tx_restart {T : State} (X : Stand p l e R s m args below meth c T locs cells slots) {R' : Room} (h1 : R'.frames ≤ R.frames) (h2 : R'.locals ≤ R.locals) (h3 : cells + R'.cells ≤ R.cells) (h4 : slots + R'.slots ≤ R.slots) :
    Stand p l e R' (T.setFrames (.invoking m args :: below)) m args below meth c T [] 0 0 := by
  obtain ⟨g₀, hfr⟩ := X.frames_eq
  have hcur : T.cur < T.threads.size := State.cur_lt_of_frames hfr
  have hF : (T.setFrames (.invoking m args :: below)).frames = .invoking m args :: below := State.frames_setFrames _ hcur
  obtain ⟨t, ht, -⟩ := State.frames_cons hfr
  obtain ⟨t', ht', -⟩ := State.frames_cons hF
  have hcur' : (T.setFrames (.invoking m args :: below)).cur < (T.setFrames (.invoking m args :: below)).threads.size := State.cur_lt_of_frames hF
  refine ⟨X.admits, X.cas, X.clock, hF, ?_, ?_, X.method', X.code, X.here, X.tail, State.WarmedH.refl (T.setFrames (.invoking m args :: below)), by rw [State.stackLimits_setFrames], by rw [State.stackBytes_setFrames], ?_⟩
  · obtain ⟨r1, r2, r3, r4⟩ := State.hasRoom_stack X.room
    have r5 := State.hasRoom_real X.room
    have h := X.room
    simp only [State.hasRoom, Bool.and_eq_true, decide_eq_true_eq] at h
    rw [State.localsInUse_invoking X.frames X.method X.code] at r3 r4 r5
    rw [X.frames, List.length_cons] at r1 r2
    have hU := State.localsInUse_invoking hF X.method' X.code
    have hz := X.heapSize
    have hu := X.used
    simp only [State.hasRoom, Bool.and_eq_true, decide_eq_true_eq, hF, hU, List.length_cons, State.stackLimits_setFrames, State.stackBytes_setFrames, X.limits, X.bytes]
    refine ⟨⟨⟨⟨by omega, by omega, by omega, by omega, by omega, h.1.1.1.2.2.2.2.2⟩, ?_⟩, ?_⟩, X.book⟩
    · have := h.1.1.2
      show T.heap.size + R'.cells ≤ e.platform.maxCells
      omega
    · have := h.1.2
      show T.slotsUsed + R'.slots ≤ e.platform.maxSlots
      omega
  · have hh := X.hears
    cases below with
    | nil => simpa [State.hears, X.method, show (T.setFrames (.invoking m args :: [])).vm = T.vm from rfl, X.method'] using hh
    | cons y r => cases y <;> simpa [State.hears, State.code?_eq, show ∀ fs, (T.setFrames fs).vm = T.vm from fun _ => rfl, X.warmed.alike.method?, X.method, X.method'] using hh
  · have h := (State.sameButNew.refl (T.setFrames (.invoking m args :: below)) ht').setFrames T.frames hcur'
    rw [State.setFrames_setFrames, State.setFrames_self ht] at h
    exact h
/-- what the walk from the new start moved, beside what was moved before it -/
theorem tx_same {T U : State} {k n : Nat} (X : Stand p l e R s m args below meth c T locs cells slots) (fs : List Frame) (hW : (T.setFrames fs).WarmedH U.vm) (h : (T.setFrames fs).sameButNew ({ U with vm := (T.setFrames fs).vm } : State) [] k n) :
    tx_End s U locs (cells + k) (slots + n) := by
  have hT : T.sameButNew (U.setVm T.vm) [] k n := by
    obtain ⟨e1, e2⟩ := h
    rw [State.setFrames_setFrames] at e1
    exact ⟨e1, e2⟩
  have h2 := X.same.trans (hT.setVm s.vm)
  rw [List.append_nil] at h2
  exact ⟨State.WarmedH.trans X.warmed hW, h2⟩
end TX1
