/-! Calls of constructors; a call with its frame; the second of two handlers. -/
def tq_Q (Post : Outcome → State → Prop) (A : Nat → Prop) : Array Value → State → Outcome → State → Prop := fun _ st o t => Post o t ∧ va_F A st t
/-- a method's start: its arguments, its world, what Throwable's statics hold -/
def tq_P (D : va_G) (cl : List vw_C) (av : List Value) (sz : Nat) (w : va_W) (tys : List (ClassId × FieldType)) : Array Value → State → Prop := va_Pc av (fun U => U.heap.size = sz ∧ va_P D cl w U.heap ∧ va_K D cl tys U ∧ va_D (fun _ => True) w ∧ ts_St U)
theorem tq_blind {D : va_G} {cl : List vw_C} {av : List Value} {sz : Nat} {w : va_W} {tys : List (ClassId × FieldType)} : FrameBlind (tq_P D cl av sz w tys) := by
  intro a U g mk q
  obtain ⟨q0, q1, qP, qK, qD, qS⟩ := q
  exact ⟨q0, q1, qP, va_K.moved (u := U) (U := U.calling g mk a) (Vm.Alike.refl U.vm) qK, qD, ts_keep (s := U) (U := U.calling g mk a) (State.WarmedH.refl U) (fun _ _ h _ => h) qS⟩
theorem tx_isM {y : MethodName} {rm : Room} {cc : ByteArray} {maxL : Nat} {ret : Option FieldType} {ws : List Cond} (hw : Cond.code y cc maxL ret ∈ ws) :
    ∀ args (s : State) m, (headSpec ws rm).pre.before args s = true → s.methodNamed? y = some m → ∃ meth c, s.vm.method? m = some meth ∧ meth.code = some c ∧ c.code = cc ∧ c.maxLocals = maxL ∧ meth.sig.returnType = ret ∧ meth.locks = false := by
  intro args s m h hn
  obtain ⟨meth, c, h1, h2, h3, h4, h5, h6, -, -⟩ := Cond.code_spec hn (atoms_spec (ws := ws) h _ hw)
  exact ⟨meth, c, h1, h2, h3, h4, h5, h6⟩
theorem tx_isWM {y : MethodName} {rm : Room} {cc : ByteArray} {maxL : Nat} {ret : Option FieldType} {hs : List (Nat × Nat × Nat × Nat)} {ws : List Cond} (hw : Cond.codeWith y cc maxL ret hs ∈ ws) :
    ∀ args (s : State) m, (headSpec ws rm).pre.before args s = true → s.methodNamed? y = some m → ∃ meth c, s.vm.method? m = some meth ∧ meth.code = some c ∧ c.code = cc ∧ c.maxLocals = maxL ∧ meth.sig.returnType = ret ∧ meth.locks = false := by
  intro args s m h hn
  obtain ⟨m', meth, c, h0, h1, h2, h3, h4, h5, h6, h7, -⟩ := Cond.codeWith_spec (atoms_spec (ws := ws) h _ hw)
  cases hn.symm.trans h0
  exact ⟨meth, c, h1, h2, h3, h4, h6, h7⟩
section TX5
variable {p : Program} {l : Launch} {e : Env} {R : Room} {s : State} {m : MethodId} {args : Array Value} {below : List Frame} {meth : Method} {c : Code} {H : Heap} {locs : List Loc} {cells slots : Nat}
variable {y : MethodName} {cc bytes : ByteArray} {maxL nL mc ms n index : Nat} {ws Ts : List Cond} {rm : Room} {Pc : Array Value → State → Prop} {Qc : Array Value → State → Outcome → State → Prop} {free : Addr → Prop} {own C host : String} {b : Addr} {As rest : List Value} {g : JFrame}
theorem tx_cb (hts : ∀ w ∈ tw_tbl, w.before args s = true) (hrc : rm.cells = mc) (hrs : rm.slots = ms) (hR : rm.frames + 1 ≤ R.frames ∧ 8 + (maxL + 11) + rm.locals ≤ R.locals) (hc : tx_code y maxL s) (hi : (Cond.initialized y.cls).before args s = true)
    (hd : y.cls ≠ "java/lang/invoke/MethodHandle" ∧ y.cls ≠ "java/lang/invoke/VarHandle" ∧ (parseMethodDescriptor y.desc).map (fun d => d.parameters.length) = some n) (hk : (Cond.methodLink own index y).before args s = true) : tx_CB R s args own index y maxL tw_tbl rm mc ms n := by
  refine ⟨hrc, hrs, hR.1, hR.2, tw_ws hts, hc, hi, ⟨hd.1, hd.2.1⟩, fun sig h => ?_, hk⟩
  have h2 := hd.2.2
  rw [h] at h2
  exact (Option.some.inj h2).symm
theorem tx_runI (S : CallFix p m c cc nL s args Ts own) (hM : tx_Met l y ws rm Pc Qc mc ms free) (cw : tx_CB R s args own index y maxL ws rm mc ms n) (hcode : (Cond.code y bytes maxL none).before args s = true) (hy1 : y.name = "<init>") (hin : (Cond.instanceMethod y).before args s = true) (hp : PreS s H Pc (.ref b :: As))
    (hg : g.method = m) (hn : As.length = n) (hsize : g.locals.size = nL) (hstack : g.stack = As.reverse ++ .ref b :: rest) (hW : 2 * g.monitorRoom + (rest.map fun v => v.category).sum ≤ 8) (hdg : decode cc g.pc = .ok (.invokespecial index, 3)) (hf : cells + mc ≤ R.cells ∧ slots + ms ≤ R.slots) :
    tx_Run p l e R s m args below meth c H locs cells slots mc ms g rest (Qc (Value.ref b :: As).toArray) free := by
  obtain ⟨hrc, hrs, hfr, hlo, hws, -, hini, hy, hlen, hl⟩ := cw
  obtain ⟨hx, hb, hml, ho, -⟩ := S
  intro T hT X
  subst hg
  have hpl : e.platform.magicAccessors = ({} : Platform).magicAccessors := by rw [X.admits.platform]
  obtain ⟨mk, methM, cM, kP, vm₁, hnamed, hmethM, hcodeM, -, hlocalsM, -, hkP, -, hW₁, hstep₁⟩ := Steps.initColdArgs (e := e) X.here hx X.warmed hpl ho hy1 hy hl hin hcode (f := g) rfl (fun sig h => hn.trans (hlen sig h)) hstack (by rw [hb]; exact hdg)
  have X₁ := X.noted hW₁
  obtain ⟨o, t, T', L, X', hL, e1, e2, hq, k1, k2⟩ := tx_back X₁ hM hrc hrs hfr hlo (g := { g with stack := rest }) rfl (hsize.trans hml.symm) (by rw [hb]; exact hdg) hW (X₁.named hnamed) (by rw [X₁.warmed.alike.method?]; exact hmethM) hcodeM hlocalsM (a := (Value.ref b :: As).toArray)
    (word_at X₁.warmed (Or.inl (by first | rfl | simp [Cond.onTables, Cond.keeps, Cond.steady])) hini) (atoms_intro fun w hw => hws w hw _ _ X₁.warmed) (hp.1 _ _ _ _ (hp.2 (T.setVm vm₁) hT X₁.warmed)) hf.1 hf.2
  refine ⟨o, (T.setVm vm₁).calling { g with stack := rest } mk (Value.ref b :: As).toArray, t, T', L, hT, X', hL, e1, e2, hq, fun v he tg h => hstep₁ _ fun acts => ?_, fun x he tg h => hstep₁ _ fun acts => ?_⟩
  · rw [doInvoke_state]; exact (k1 v he).trans h
  · rw [doInvoke_state]; exact (k2 x he).trans h
abbrev tx_CN (R : Room) (s : State) (args : Array Value) (own : String) (index : Nat) (y : MethodName) (host : String) (maxL : Nat) (ws : List Cond) (rm : Room) (mc ms n : Nat) : Prop :=
  rm.cells = mc ∧ rm.slots = ms ∧ rm.frames + 1 ≤ R.frames ∧ 8 + (maxL + 11) + rm.locals ≤ R.locals ∧ (∀ w ∈ ws, ∀ (a' : Array Value) (U : State), s.WarmedH U.vm → w.before a' U = true) ∧
  (Cond.initialized y.cls).before args s = true ∧ (y.cls ≠ "java/lang/invoke/MethodHandle" ∧ y.cls ≠ "java/lang/invoke/VarHandle") ∧ (∀ sig, parseMethodDescriptor y.desc = some sig → n = sig.parameters.length) ∧ (Cond.methodLinkNest own index y host).before args s = true
theorem tx_cn (hts : ∀ w ∈ tw_tbl, w.before args s = true) (hrc : rm.cells = mc) (hrs : rm.slots = ms) (hR : rm.frames + 1 ≤ R.frames ∧ 8 + (maxL + 11) + rm.locals ≤ R.locals) (hi : (Cond.initialized y.cls).before args s = true)
    (hd : y.cls ≠ "java/lang/invoke/MethodHandle" ∧ y.cls ≠ "java/lang/invoke/VarHandle" ∧ (parseMethodDescriptor y.desc).map (fun d => d.parameters.length) = some n) (hk : (Cond.methodLinkNest own index y host).before args s = true) : tx_CN R s args own index y host maxL tw_tbl rm mc ms n := by
  refine ⟨hrc, hrs, hR.1, hR.2, tw_ws hts, hi, ⟨hd.1, hd.2.1⟩, fun sig h => ?_, hk⟩
  have h2 := hd.2.2
  rw [h] at h2
  exact (Option.some.inj h2).symm
theorem tx_runIN (S : CallFix p m c cc nL s args Ts own) (hM : tx_Met l y ws rm Pc Qc mc ms free) (cw : tx_CN R s args own index y host maxL ws rm mc ms n) (hcode : (Cond.code y bytes maxL none).before args s = true) (hy1 : y.name = "<init>") (hin : (Cond.instanceMethod y).before args s = true) (hp : PreS s H Pc (.ref b :: As))
    (hg : g.method = m) (hn : As.length = n) (hsize : g.locals.size = nL) (hstack : g.stack = As.reverse ++ .ref b :: rest) (hW : 2 * g.monitorRoom + (rest.map fun v => v.category).sum ≤ 8) (hdg : decode cc g.pc = .ok (.invokespecial index, 3)) (hf : cells + mc ≤ R.cells ∧ slots + ms ≤ R.slots) :
    tx_Run p l e R s m args below meth c H locs cells slots mc ms g rest (Qc (Value.ref b :: As).toArray) free := by
  obtain ⟨hrc, hrs, hfr, hlo, hws, hini, hy, hlen, hl⟩ := cw
  obtain ⟨hx, hb, hml, ho, -⟩ := S
  intro T hT X
  subst hg
  have hpl : e.platform.magicAccessors = ({} : Platform).magicAccessors := by rw [X.admits.platform]
  obtain ⟨mk, methM, cM, kP, vm₁, hnamed, hmethM, hcodeM, -, hlocalsM, -, hkP, -, hW₁, hstep₁⟩ := Steps.initColdArgsNest (e := e) X.here hx X.warmed hpl ho hy1 hy hl hin hcode (f := g) rfl (fun sig h => hn.trans (hlen sig h)) hstack (by rw [hb]; exact hdg)
  have X₁ := X.noted hW₁
  obtain ⟨o, t, T', L, X', hL, e1, e2, hq, k1, k2⟩ := tx_back X₁ hM hrc hrs hfr hlo (g := { g with stack := rest }) rfl (hsize.trans hml.symm) (by rw [hb]; exact hdg) hW (X₁.named hnamed) (by rw [X₁.warmed.alike.method?]; exact hmethM) hcodeM hlocalsM (a := (Value.ref b :: As).toArray)
    (word_at X₁.warmed (Or.inl (by first | rfl | simp [Cond.onTables, Cond.keeps, Cond.steady])) hini) (atoms_intro fun w hw => hws w hw _ _ X₁.warmed) (hp.1 _ _ _ _ (hp.2 (T.setVm vm₁) hT X₁.warmed)) hf.1 hf.2
  refine ⟨o, (T.setVm vm₁).calling { g with stack := rest } mk (Value.ref b :: As).toArray, t, T', L, hT, X', hL, e1, e2, hq, fun v he tg h => hstep₁ _ fun acts => ?_, fun x he tg h => hstep₁ _ fun acts => ?_⟩
  · rw [doInvoke_state]; exact (k1 v he).trans h
  · rw [doInvoke_state]; exact (k2 x he).trans h
theorem tx_callK {Q : State → Prop} {Post : Outcome → State → Prop} {A0 A1 : Nat → Prop} {H0 : Heap} {pc : Nat} {ls : Array Slot} {st0 : List Value} (hr : tx_Run p l e R s m args below meth c H locs cells slots mc ms (F0 m pc ls st0) rest (fun st o t => Post o t ∧ va_F A1 st t) free)
    (hS : va_S A0 H0 H locs) (hA : ∀ q, q < H.size → A1 q → A0 q) (hf : ∀ q, free q → A0 q)
    (kr : ∀ (v : Option Value) (t : State) (H1 : Heap) (locs1 : List Loc), t.heap = H1 → s.WarmedH t.vm → Post (.returned v) t → H.size ≤ H1.size → (∀ q : Nat, q < H.size → ¬ A1 q → H1[q]? = H[q]?) → va_S A0 H0 H1 locs1 → W p l e R s m args below meth c H1 locs1 (cells + mc) (slots + ms) Q (F0 m (pc + 3) ls (v.toList ++ rest)))
    (kt : ∀ (x : Addr) (t : State) (H1 : Heap) (locs1 : List Loc), t.heap = H1 → s.WarmedH t.vm → Post (.threw x) t → H.size ≤ H1.size → (∀ q : Nat, q < H.size → ¬ A1 q → H1[q]? = H[q]?) → va_S A0 H0 H1 locs1 → tx_Th p l e R s m args below meth c H1 locs1 (cells + mc) (slots + ms) Q (F0 m pc ls rest) x) :
    W p l e R s m args below meth c H locs cells slots Q (F0 m pc ls st0) := by
  have hS1 : ∀ (st₀ t : State) (L : List Loc), st₀.heap = H → (∀ q ∈ L, free q.base) → va_F A1 st₀ t → va_S A0 H0 t.heap (locs ++ L) := by
    intro st₀ t L h0 hL hF
    obtain ⟨hz, hk⟩ := hF
    rw [h0] at hz hk
    refine ⟨Nat.le_trans hS.1 hz, fun q h1 h2 => ?_, fun q hq => ?_⟩
    · rw [hk q (Nat.lt_of_lt_of_le h1 hS.1) (fun z => h2 (hA q (Nat.lt_of_lt_of_le h1 hS.1) z))]; exact hS.2.1 q h1 h2
    · rcases List.mem_append.mp hq with h | h
      · exact hS.2.2 q h
      · exact hf _ (hL q h)
  refine tx_call hr (fun v st₀ t L h0 hW hL hq => ?_) (fun x st₀ t L h0 hW hL hq => ?_)
  · have hF := hq.2
    have h3 := hS1 st₀ t L h0 hL hF
    obtain ⟨hz, hk⟩ := hF
    rw [h0] at hz hk
    exact kr v t t.heap (locs ++ L) rfl hW hq.1 hz hk h3
  · have hF := hq.2
    have h3 := hS1 st₀ t L h0 hL hF
    obtain ⟨hz, hk⟩ := hF
    rw [h0] at hz hk
    exact kt x t t.heap (locs ++ L) rfl hW hq.1 hz hk h3
end TX5
