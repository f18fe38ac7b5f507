/-! An exception is caught: the handler's class is resolved there (cold or warm). -/
theorem tx_goClass {E : CtlPost} {e : Env} {d : Bool} {acts : List Action} {s : State} {f : JFrame} {a : Addr} {Q : Handler → Pre} {x : ExceptionTableEntry} {t : List ExceptionTableEntry} {c : ClassId} {cell : Cell} {vm' : Vm} (hx : covers x f.pc = true) (h0 : x.catchType ≠ 0)
    (hg : (Jvm.resolveClass f.method.cls x.catchType).Gives e.toSetting s.vm (.ok c) vm') (hsz : vm'.classes.size ≤ s.vm.classes.size)
    (hcell : s.heap[a]? = some cell) (hobj : ∀ k, cell.vm ≠ .statics k) (hk : ∃ k, vm'.classes[cell.cls]? = some k) (hc : ∃ k, vm'.classes[c]? = some k) :
    wp (findHandler.go f a (x :: t)) Q E e d acts s ↔
      if vm'.assignable cell.cls c = true then Q (.found x.handlerPc) d acts (s.setVm vm') else wp (findHandler.go f a t) Q E e d acts (s.setVm vm') := by
  simp only [covers] at hx
  obtain ⟨ha, ht⟩ := hg.op (op := VmOp.resolveClass f.method.cls x.catchType) rfl
  cases hfit : vm'.assignable cell.cls c <;>
    simp [findHandler.go, hx, h0, ha, ht, hsz, hcell, hobj, hk, hc, hfit, VmOp.dirties, VmOp.acts]
/-- what the search gives, and the tables that it leaves -/
def tx_Finds (e : Env) (s : State) (f : JFrame) (a : Addr) (h : Handler) (vm' : Vm) : Prop :=
  ∀ (Q : Handler → Pre) (E : CtlPost) (d : Bool) (acts : List Action), wp (findHandler f a) Q E e d acts s ↔ Q h d acts (s.setVm vm')
theorem tx_catchStep {e : Env} {s : State} {a : Addr} {f : JFrame} {r : List Frame} {pc : Nat} {vm' : Vm} (hfind : tx_Finds e s f a (.found pc) vm') :
    (stepThrowing e s a (.java f :: r)).Is ((s.setVm vm').setFrames (.java { f with pc := pc, stack := [.ref a] } :: r)) [] := by
  simp only [stepThrowing, searchFrame, vmDo]
  generalize hr : Sem.go _ e false [] s = res
  obtain ⟨as, rfl, ha⟩ := Sem.eq_ok_of hr (a := Handler.found pc) (s' := s.setVm vm') (acts' := []) (by simp [hfind _ _ _ _])
  exact ⟨rfl, ha⟩
theorem tx_caught {tb : Tables} {e : Env} {s target : State} {g : JFrame} {c : Code} {below : List Frame} {a : Addr} (h : At s g.method c below) {pc : Nat} {vm' : Vm} (hfind : tx_Finds e ((s.setTop g).pushFrame (.throwing a)) g a (.found pc) vm')
    (hrest : Steps tb e below ((s.setVm vm').setTop { g with pc := pc, stack := [.ref a] }) target) :
    Steps tb e below ((s.setTop g).pushFrame (.throwing a)) target := by
  obtain ⟨hgo, hw⟩ := h.throwing a
  refine Steps.head hgo hw ?_
  rw [stepThread_throwing (frames_entered h.top _), (tx_catchStep (s := (s.setTop g).pushFrame (.throwing a)) hfind).1]
  obtain ⟨g₀, hg⟩ := Option.isSome_iff_exists.mp h.top
  obtain ⟨r, hr⟩ := State.topJava?_eq_some.mp hg
  have hr' : (s.setVm vm').frames = .java g₀ :: r := hr
  have e1 : (((s.setTop g).pushFrame (.throwing a)).setVm vm').setFrames (.java { g with pc := pc, stack := [.ref a] } :: s.frames.tail) = (s.setVm vm').setTop { g with pc := pc, stack := [.ref a] } := by
    rw [State.setTop_of_frames _ hr', State.pushFrame, State.setTop_of_frames _ hr, State.setFrames_setFrames, hr]
    show ((s.setVm vm').setFrames _).setFrames _ = _
    rw [State.setFrames_setFrames]
    rfl
  rw [e1]
  exact hrest
section TX4
variable {p : Program} {l : Launch} {e : Env} {R : Room} {s : State} {m : MethodId} {args : Array Value} {below : List Frame} {meth : Method} {c : Code} {H : Heap} {locs : List Loc} {cells slots : Nat}
/-- the first handler takes it -/
theorem tx_catch {Q : State → Prop} {pc s1 e1 h1 ct : Nat} {hs : List (Nat × Nat × Nat × Nat)} (htab : c.exceptionTable.toList = tableOf ((s1, e1, h1, ct) :: hs)) (hcov : (decide (s1 ≤ pc) && decide (pc < e1)) = true) (hct : ct ≠ 0)
    {own C X : String} (hown : s.vm.findClass own = some m.cls) (hl : (Cond.classLink own ct C).before args s = true) {ce : Cell} {x : Addr} (hce : H[x]? = some ce) (hst : ∀ k, ce.vm ≠ .statics k) (hfX : s.vm.findClass X = some ce.cls) (hcast : (Cond.castable X C).before args s = true)
    {ls : Array Slot} {st : List Value} (kk : W p l e R s m args below meth c H locs cells slots Q (F0 m h1 ls [.ref x])) : tx_Th p l e R s m args below meth c H locs cells slots Q (F0 m pc ls st) x := by
  intro T hT X
  have hpl : e.platform.magicAccessors = ({} : Platform).magicAccessors := by rw [X.admits.platform]
  obtain ⟨cC, hfC, hcl⟩ := Cond.classLink_spec hown hl e.platform hpl
  obtain ⟨c3, c4, hc3, hc4, hasg⟩ := Cond.castable_spec hcast
  cases hfX.symm.trans hc3
  cases hfC.symm.trans hc4
  obtain ⟨hg₁, hwarm₁, hready₁⟩ := State.classEntry (e := e) X.warmed hcl
  generalize T.vm.noted m.cls ct (.cls cC) = vm₁ at hg₁ hwarm₁ hready₁
  have X₁ := X.noted hwarm₁
  obtain ⟨t, a1, b1⟩ := kk (T.setVm vm₁) hT X₁
  refine ⟨t, tx_caught (g := F0 m pc ls st) X.here (vm' := vm₁) ?_ a1, b1⟩
  intro Q' E d acts
  rw [W.findHandler_eq (s := (T.setTop (F0 m pc ls st)).pushFrame (.throwing x)) (meth := meth) (code := c) (by rw [Stand.throwing_vm]; exact X.method') X.code, htab]
  obtain ⟨kx, hkx, -⟩ := Vm.findClass_spec hfX
  obtain ⟨kc, hkc, -⟩ := Vm.findClass_spec hfC
  obtain ⟨kx', hkx', -⟩ := hwarm₁.alike.2.2 _ _ hkx
  obtain ⟨kc', hkc', -⟩ := hwarm₁.alike.2.2 _ _ hkc
  show wp (findHandler.go (F0 m pc ls st) x (⟨s1, e1, h1, ct⟩ :: tableOf hs)) Q' E e d acts _ ↔ _
  rw [tx_goClass (s := (T.setTop (F0 m pc ls st)).pushFrame (.throwing x)) (c := cC) (cell := ce) (vm' := vm₁) hcov hct (by rw [Stand.throwing_vm]; exact hg₁) (by rw [Stand.throwing_vm]; have := (X.warmed.alike.symm.trans hwarm₁.alike).2.1; omega) (by rw [Stand.throwing_heap, hT]; exact hce) hst ⟨kx', hkx'⟩ ⟨kc', hkc'⟩,
    if_pos (by rw [hwarm₁.alike.assignable]; exact hasg)]
/-- the first handler is not of its class, the second takes it -/
theorem tx_catch2 {Q : State → Prop} {pc s1 e1 h1 ct1 s2 e2 h2 ct : Nat} {hs : List (Nat × Nat × Nat × Nat)} (htab : c.exceptionTable.toList = tableOf ((s1, e1, h1, ct1) :: (s2, e2, h2, ct) :: hs)) (hcov1 : (decide (s1 ≤ pc) && decide (pc < e1)) = true) (hct1 : ct1 ≠ 0) (hcov : (decide (s2 ≤ pc) && decide (pc < e2)) = true) (hct : ct ≠ 0)
    {own C1 C X : String} (hown : s.vm.findClass own = some m.cls) (hl1 : (Cond.classLink own ct1 C1).before args s = true) (hl : (Cond.classLink own ct C).before args s = true) {ce : Cell} {x : Addr} (hce : H[x]? = some ce) (hst : ∀ k, ce.vm ≠ .statics k) (hfX : s.vm.findClass X = some ce.cls) (hno : (Cond.not (.castable X C1)).before args s = true) (hcast : (Cond.castable X C).before args s = true)
    {ls : Array Slot} {st : List Value} (kk : W p l e R s m args below meth c H locs cells slots Q (F0 m h2 ls [.ref x])) : tx_Th p l e R s m args below meth c H locs cells slots Q (F0 m pc ls st) x := by
  intro T hT X
  have hpl : e.platform.magicAccessors = ({} : Platform).magicAccessors := by rw [X.admits.platform]
  obtain ⟨cC1, hfC1, hcl1⟩ := Cond.classLink_spec hown hl1 e.platform hpl
  obtain ⟨cC, hfC, hcl⟩ := Cond.classLink_spec hown hl e.platform hpl
  obtain ⟨c3, c4, hc3, hc4, hasg⟩ := Cond.castable_spec hcast
  cases hfX.symm.trans hc3
  cases hfC.symm.trans hc4
  have hnot : s.vm.assignable ce.cls cC1 = false := by
    simp only [Cond.before, Cond.holds, Cond.value, hfX, hfC1] at hno
    cases ha : s.vm.assignable ce.cls cC1 with
    | false => rfl
    | true => simp [ha] at hno
  obtain ⟨hg₁, hwarm₁, hready₁⟩ := State.classEntry (e := e) X.warmed hcl1
  generalize T.vm.noted m.cls ct1 (.cls cC1) = vm₁ at hg₁ hwarm₁ hready₁
  have X₁ := X.noted hwarm₁
  obtain ⟨hg₂, hwarm₂, hready₂⟩ := State.classEntry (e := e) X₁.warmed hcl
  have hg₂ : (Jvm.resolveClass m.cls ct).Gives e.toSetting vm₁ (.ok cC) (vm₁.noted m.cls ct (.cls cC)) := hg₂
  have hwarm₂ : s.WarmedH (vm₁.noted m.cls ct (.cls cC)) := hwarm₂
  generalize vm₁.noted m.cls ct (.cls cC) = vm₂ at hg₂ hwarm₂
  have X₂ := X.noted hwarm₂
  obtain ⟨t, a1, b1⟩ := kk (T.setVm vm₂) hT X₂
  refine ⟨t, tx_caught (g := F0 m pc ls st) X.here (vm' := vm₂) ?_ a1, b1⟩
  intro Q' E d acts
  rw [W.findHandler_eq (s := (T.setTop (F0 m pc ls st)).pushFrame (.throwing x)) (meth := meth) (code := c) (by rw [Stand.throwing_vm]; exact X.method') X.code, htab]
  obtain ⟨kx, hkx, -⟩ := Vm.findClass_spec hfX
  obtain ⟨kc, hkc, -⟩ := Vm.findClass_spec hfC
  obtain ⟨kd, hkd, -⟩ := Vm.findClass_spec hfC1
  obtain ⟨kx', hkx', -⟩ := hwarm₁.alike.2.2 _ _ hkx
  obtain ⟨kd', hkd', -⟩ := hwarm₁.alike.2.2 _ _ hkd
  obtain ⟨kx'', hkx'', -⟩ := hwarm₂.alike.2.2 _ _ hkx
  obtain ⟨kc'', hkc'', -⟩ := hwarm₂.alike.2.2 _ _ hkc
  show wp (findHandler.go (F0 m pc ls st) x (⟨s1, e1, h1, ct1⟩ :: ⟨s2, e2, h2, ct⟩ :: tableOf hs)) Q' E e d acts _ ↔ _
  rw [tx_goClass (s := (T.setTop (F0 m pc ls st)).pushFrame (.throwing x)) (c := cC1) (cell := ce) (vm' := vm₁) hcov1 hct1 (by rw [Stand.throwing_vm]; exact hg₁) (by rw [Stand.throwing_vm]; have := (X.warmed.alike.symm.trans hwarm₁.alike).2.1; omega) (by rw [Stand.throwing_heap, hT]; exact hce) hst ⟨kx', hkx'⟩ ⟨kd', hkd'⟩,
    if_neg (by rw [hwarm₁.alike.assignable, hnot]; decide)]
  rw [tx_goClass (s := ((T.setTop (F0 m pc ls st)).pushFrame (.throwing x)).setVm vm₁) (c := cC) (cell := ce) (vm' := vm₂) hcov hct hg₂ (by have := (hwarm₁.alike.symm.trans hwarm₂.alike).2.1; show vm₂.classes.size ≤ vm₁.classes.size; omega) (by show ((T.setTop (F0 m pc ls st)).pushFrame (.throwing x)).heap[x]? = _; rw [Stand.throwing_heap, hT]; exact hce) hst ⟨kx'', hkx''⟩ ⟨kc'', hkc''⟩,
    if_pos (by rw [hwarm₂.alike.assignable]; exact hasg)]
  rfl
end TX4
