/-! An exception is caught by a handler behind others that are not of its class. -/
theorem tx_goN {e : Env} {s : State} {m : MethodId} {args : Array Value} (hpl : e.platform.magicAccessors = ({} : Platform).magicAccessors) {own X C : String} (hown : s.vm.findClass own = some m.cls) {ce : Cell} {x : Addr} (hst : ∀ k, ce.vm ≠ .statics k) (hfX : s.vm.findClass X = some ce.cls)
    {pc s2 e2 h2 ct : Nat} {hs : List (Nat × Nat × Nat × Nat)} {ls : Array Slot} {st : List Value} (hcov : (decide (s2 ≤ pc) && decide (pc < e2)) = true) (hct : ct ≠ 0) (hl : (Cond.classLink own ct C).before args s = true) (hcast : (Cond.castable X C).before args s = true) :
    ∀ (pre : List ((Nat × Nat × Nat × Nat) × String)), (∀ q ∈ pre, (decide (q.1.1 ≤ pc) && decide (pc < q.1.2.1)) = true ∧ q.1.2.2.2 ≠ 0 ∧ (Cond.classLink own q.1.2.2.2 q.2).before args s = true ∧ (Cond.not (.castable X q.2)).before args s = true) →
      ∀ S : State, s.WarmedH S.vm → S.heap[x]? = some ce → ∃ vm' : Vm, s.WarmedH vm' ∧ ∀ (Q' : Handler → Pre) (E : CtlPost) (d : Bool) (acts : List Action), wp (findHandler.go (F0 m pc ls st) x (tableOf (pre.map (fun q => q.1) ++ (s2, e2, h2, ct) :: hs))) Q' E e d acts S ↔ Q' (.found h2) d acts (S.setVm vm') := by
  intro pre
  induction pre with
  | nil =>
    intro _ S hW hce
    obtain ⟨cC, hfC, hcl⟩ := Cond.classLink_spec hown hl e.platform hpl
    obtain ⟨c3, c4, hc3, hc4, hasg⟩ := Cond.castable_spec hcast
    cases hfX.symm.trans hc3
    cases hfC.symm.trans hc4
    obtain ⟨hg₁, hwarm₁, hready₁⟩ := State.classEntry (e := e) hW hcl
    generalize S.vm.noted m.cls ct (.cls cC) = vm₁ at hg₁ hwarm₁ hready₁
    refine ⟨vm₁, hwarm₁, fun Q' E d acts => ?_⟩
    obtain ⟨kx, hkx, -⟩ := Vm.findClass_spec hfX
    obtain ⟨kc, hkc, -⟩ := Vm.findClass_spec hfC
    obtain ⟨kx', hkx', -⟩ := hwarm₁.alike.2.2 _ _ hkx
    obtain ⟨kc', hkc', -⟩ := hwarm₁.alike.2.2 _ _ hkc
    show wp (findHandler.go (F0 m pc ls st) x (⟨s2, e2, h2, ct⟩ :: tableOf hs)) Q' E e d acts S ↔ _
    rw [tx_goClass (s := S) (c := cC) (cell := ce) (vm' := vm₁) hcov hct hg₁ (by have := (hW.alike.symm.trans hwarm₁.alike).2.1; omega) hce hst ⟨kx', hkx'⟩ ⟨kc', hkc'⟩,
      if_pos (by rw [hwarm₁.alike.assignable]; exact hasg)]
  | cons q pre ih =>
    intro hp S hW hce
    obtain ⟨⟨s1, e1, h1, ct1⟩, C1⟩ := q
    obtain ⟨hcov1, hct1, hl1, hno⟩ := hp _ (List.mem_cons_self ..)
    obtain ⟨cC1, hfC1, hcl1⟩ := Cond.classLink_spec hown hl1 e.platform hpl
    have hnot : s.vm.assignable ce.cls cC1 = false := by
      simp only [Cond.before, Cond.holds, Cond.value, hfX, hfC1] at hno
      cases ha : s.vm.assignable ce.cls cC1 with
      | false => rfl
      | true => simp [ha] at hno
    obtain ⟨hg₁, hwarm₁, hready₁⟩ := State.classEntry (e := e) hW hcl1
    have hg₁ : (Jvm.resolveClass m.cls ct1).Gives e.toSetting S.vm (.ok cC1) (S.vm.noted m.cls ct1 (.cls cC1)) := hg₁
    have hwarm₁ : s.WarmedH (S.vm.noted m.cls ct1 (.cls cC1)) := hwarm₁
    clear hready₁
    generalize S.vm.noted m.cls ct1 (.cls cC1) = vm₁ at hg₁ hwarm₁
    obtain ⟨vm2, hW2, hgo⟩ := ih (fun z hz => hp z (List.mem_cons_of_mem _ hz)) (S.setVm vm₁) hwarm₁ hce
    refine ⟨vm2, hW2, fun Q' E d acts => ?_⟩
    obtain ⟨kx, hkx, -⟩ := Vm.findClass_spec hfX
    obtain ⟨kd, hkd, -⟩ := Vm.findClass_spec hfC1
    obtain ⟨kx', hkx', -⟩ := hwarm₁.alike.2.2 _ _ hkx
    obtain ⟨kd', hkd', -⟩ := hwarm₁.alike.2.2 _ _ hkd
    show wp (findHandler.go (F0 m pc ls st) x (⟨s1, e1, h1, ct1⟩ :: tableOf (pre.map (fun q => q.1) ++ (s2, e2, h2, ct) :: hs))) Q' E e d acts S ↔ _
    rw [tx_goClass (s := S) (c := cC1) (cell := ce) (vm' := vm₁) hcov1 hct1 hg₁ (by have := (hW.alike.symm.trans hwarm₁.alike).2.1; omega) hce hst ⟨kx', hkx'⟩ ⟨kd', hkd'⟩,
      if_neg (by rw [hwarm₁.alike.assignable, hnot]; decide)]
    exact hgo Q' E d acts
section TXN
variable {p : Program} {l : Launch} {e : Env} {R : Room} {s : State} {m : MethodId} {args : Array Value} {below : List Frame} {meth : Method} {c : Code} {H : Heap} {locs : List Loc} {cells slots : Nat}
theorem tx_catchN {Q : State → Prop} {pc s2 e2 h2 ct : Nat} {hs : List (Nat × Nat × Nat × Nat)} (pre : List ((Nat × Nat × Nat × Nat) × String)) (htab : c.exceptionTable.toList = tableOf (pre.map (fun q => q.1) ++ (s2, e2, h2, ct) :: hs))
    {own C X : String} (hp : ∀ q ∈ pre, (decide (q.1.1 ≤ pc) && decide (pc < q.1.2.1)) = true ∧ q.1.2.2.2 ≠ 0 ∧ (Cond.classLink own q.1.2.2.2 q.2).before args s = true ∧ (Cond.not (.castable X q.2)).before args s = true)
    (hcov : (decide (s2 ≤ pc) && decide (pc < e2)) = true) (hct : ct ≠ 0) (hown : s.vm.findClass own = some m.cls) (hl : (Cond.classLink own ct C).before args s = true) {ce : Cell} {x : Addr} (hce : H[x]? = some ce) (hst : ∀ k, ce.vm ≠ .statics k) (hfX : s.vm.findClass X = some ce.cls) (hcast : (Cond.castable X C).before args s = true)
    {ls : Array Slot} {st : List Value} (kk : W p l e R s m args below meth c H locs cells slots Q (F0 m h2 ls [.ref x])) : tx_Th p l e R s m args below meth c H locs cells slots Q (F0 m pc ls st) x := by
  intro T hT X
  have hpl : e.platform.magicAccessors = ({} : Platform).magicAccessors := by rw [X.admits.platform]
  obtain ⟨vm', hW', hgo⟩ := tx_goN (ls := ls) (st := st) hpl hown hst hfX hcov hct hl hcast (hs := hs) pre hp ((T.setTop (F0 m pc ls st)).pushFrame (.throwing x)) (by rw [Stand.throwing_vm]; exact X.warmed) (by rw [Stand.throwing_heap, hT]; exact hce)
  have X₁ := X.noted hW'
  obtain ⟨t, a1, b1⟩ := kk (T.setVm vm') hT X₁
  refine ⟨t, tx_caught (g := F0 m pc ls st) X.here (vm' := vm') ?_ a1, b1⟩
  intro Q' E d acts
  rw [W.findHandler_eq (s := (T.setTop (F0 m pc ls st)).pushFrame (.throwing x)) (meth := meth) (code := c) (by rw [Stand.throwing_vm]; exact X.method') X.code, htab]
  exact hgo Q' E d acts
end TXN
