/-! What holds at the law's entry. The definitions are those of the claim's skeleton; the launch's flags are carried along. -/
/-! THE CLAIM OUT OF ONE WALK OF THE LAW'S BODY. Your part is whole_start (and what it stands on); all else here is the same for every law, but numbers. -/
def R_law : String := "StoryMachineLaw"
def lw_P (b : Addr) (xs : List Int32) (args : Array Value) (s : State) : Prop := args = #[.ref b] ∧ s.IntsAt b xs ∧ xs.length ≤ 2560 ∧ (Jvm.Cond.and given_1 narrow_1).before args s = true
def lw_Q (_ : Array Value) (s : State) (o : Outcome) (t : State) : Prop := o = .returned (some (.int 1)) ∧ Framed s o t [] 601024 7293034
def lw_Z (below : List Frame) (a : Array Value) (s : State) : State → Prop := fun t => ∃ o, t.status = .running ∧ Ended t below o ∧ lw_Q a s o t
/-- the law's own end, with 1 on the stack, nothing written that was there before, its room as the claim has it -/
theorem lw_ret {p : Program} {l : Launch} {e : Env} {s : State} {m : MethodId} {below : List Frame} {meth : Method} {c : Code} {b : Nat} (hx : p.tables.exec = Jvm.exec) (hb : c.code = code) (hr : meth.sig.returnType = ret) (hlocks : meth.locks = false) {pc : Nat} {H : Heap} {ls : Array Slot} (hdg : decode code pc = .ok (.ireturn, 1)) : W p l e room_1 s m #[Value.ref b] below meth c H [] 601024 7293034 (lw_Z below #[Value.ref b] s) (F0 m pc ls [.int 1]) := by
  intro T hT X
  obtain ⟨fs, hret, hrun, hended, hW, hframe⟩ := X.leave (v := some (.int 1)) (hlocks := hlocks) (fun h => by rw [hr] at h; cases h)
  have hmeth' : T.vm.method? m = some meth := X.method'
  refine ⟨T.setFrames fs, ?_, .returned (some (.int 1)), hrun, hended, rfl, ⟨_, rfl⟩, hW, hframe⟩
  jvm_step X.here [X.here.top, hx, hb, hdg, hmeth', hr, ret, narrow_b1]
  (try refine ⟨rfl, ?_⟩); (try refine ⟨rfl, ?_⟩)
  first | (intro acts; rw [hret _ acts rfl rfl rfl]) | rw [hret _ _ rfl rfl rfl]
  exact Steps.refl _
/-- what holds at the law's entry: the machine, the code, the tables' words (any of lw_tbl by 'hts w (by decide +kernel)'), the script of L ints xs at the cell b, what the Statement gives of the start (any of its parts by flat_of_before) -/
def lw_At (p : Program) (s : State) (m : MethodId) (meth : Method) (c : Code) (b L : Nat) (xs : Nat → Int32) : Prop :=
  p.tables.exec = Jvm.exec ∧ c.code = code ∧ meth.sig.returnType = ret ∧ c.maxLocals = 7 ∧ s.vm.findClass R_law = some m.cls ∧ (∀ w ∈ lw_tbl, w.before #[Value.ref b] s = true) ∧ va_X b L xs s s.heap ∧ b < s.heap.size ∧ meth.locks = false ∧ (Jvm.Cond.and given_1 narrow_1).before #[Value.ref b] s = true
theorem ta_arr {args : Array Value} {s : State} {ty : FieldType} (hty : ∀ C, ty ≠ .object C) (h : (Cond.arrayClass ty).before args s = true) : ∃ cA : ClassId, ArrOfT s cA ty ∧ va_RA s cA ty := by
  simp only [Cond.before, Cond.holds, Cond.value] at h
  cases hf : s.vm.findClass ("[" ++ ty.toString) with
  | none => simp [hf] at h
  | some cA =>
    cases hk : s.vm.classes[cA]? with
    | none => simp [hf, hk] at h
    | some k =>
      cases hkk : k.kind with
      | array comp t =>
        simp [hf, hk, hkk] at h
        subst h
        refine ⟨cA, fun n z => ⟨fun _ h => (by cases h), k, hk, comp, hkk⟩, ?_⟩
        cases t with
        | object C => exact absurd rfl (hty C)
        | _ => exact hf
      | _ => simp [hf, hk, hkk] at h
theorem ty_classes {s : State} {cl : List vw_C} (H : ∀ q ∈ cl, ∃ (cC : ClassId) (iS : Nat → Nat), u_Kn s q.1 q.2.1 q.2.2 cC iS) : ∃ (dC : Nat → ClassId) (dI : Nat → Nat → Nat), ∀ (c : Nat) (q : vw_C), cl[c]? = some q → u_Kn s q.1 q.2.1 q.2.2 (dC c) (dI c) := by
  have h : ∀ c : Nat, ∃ r : ClassId × (Nat → Nat), ∀ q, cl[c]? = some q → u_Kn s q.1 q.2.1 q.2.2 r.1 r.2 := by
    intro c
    cases hc : cl[c]? with
    | none => exact ⟨(0, fun _ => 0), fun q hq => by cases hq⟩
    | some q =>
      obtain ⟨cC, iS, hk⟩ := H q (List.mem_of_getElem? hc)
      exact ⟨(cC, iS), fun q' hq => by cases hq; exact hk⟩
  obtain ⟨f, hf⟩ := Classical.axiomOfChoice h
  exact ⟨fun c => (f c).1, fun c => (f c).2, hf⟩
theorem ts_start {b : Nat} {s : State} (hts : ∀ w ∈ lw_tbl, w.before #[Value.ref b] s = true) (hgv : (Jvm.Cond.and given_1 narrow_1).before #[Value.ref b] s = true) : ts_St s := by
  have hs := flat_of_before _ hgv
  have h0 : (Cond.laysStatic Bundle.tN "UNASSIGNED_STACK" Bundle.steD).before #[Value.ref b] s = true := hts _ (List.mem_append_right _ (List.mem_of_getElem? (i := 381) (by decide +kernel)))
  have h1 : (Cond.laysStatic Bundle.tN "SUPPRESSED_SENTINEL" Bundle.listD).before #[Value.ref b] s = true := hts _ (List.mem_append_right _ (List.mem_of_getElem? (i := 383) (by decide +kernel)))
  have h2 : (Cond.isRef (.static Bundle.tN "UNASSIGNED_STACK" Bundle.steD)).before #[Value.ref b] s = true := hs _ (by decide +kernel)
  have h3 : (Cond.isRef (.static Bundle.tN "SUPPRESSED_SENTINEL" Bundle.listD)).before #[Value.ref b] s = true := hs _ (by decide +kernel)
  have h4 : (Cond.not (.castable "java/lang/IllegalStateException" "java/lang/IllegalArgumentException")).before #[Value.ref b] s = true := hs _ (by decide +kernel)
  have h5 : (Cond.not (.castable "java/lang/ArithmeticException" "java/lang/IllegalArgumentException")).before #[Value.ref b] s = true := hs _ (by decide +kernel)
  have h6 : (Cond.not (.castable "java/lang/ArithmeticException" "java/lang/IllegalStateException")).before #[Value.ref b] s = true := hs _ (by decide +kernel)
  have h7 : (Cond.not (.castable "java/lang/UnsupportedOperationException" "java/lang/IllegalArgumentException")).before #[Value.ref b] s = true := hs _ (by decide +kernel)
  have h8 : (Cond.not (.castable "java/lang/UnsupportedOperationException" "java/lang/IllegalStateException")).before #[Value.ref b] s = true := hs _ (by decide +kernel)
  have h9 : (Cond.not (.castable "java/lang/UnsupportedOperationException" "java/lang/ArithmeticException")).before #[Value.ref b] s = true := hs _ (by decide +kernel)
  intro a w hw
  simp only [ts_words, List.mem_cons, List.not_mem_nil, or_false] at hw
  rcases hw with rfl | rfl | rfl | rfl | rfl | rfl | rfl | rfl | rfl | rfl
  · simpa only [Cond.before, Cond.holds, Cond.value] using h0
  · simpa only [Cond.before, Cond.holds, Cond.value] using h1
  · simpa only [Cond.before, Cond.holds, Cond.value, Term.eval] using h2
  · simpa only [Cond.before, Cond.holds, Cond.value, Term.eval] using h3
  · simpa only [Cond.before, Cond.holds, Cond.value] using h4
  · simpa only [Cond.before, Cond.holds, Cond.value] using h5
  · simpa only [Cond.before, Cond.holds, Cond.value] using h6
  · simpa only [Cond.before, Cond.holds, Cond.value] using h7
  · simpa only [Cond.before, Cond.holds, Cond.value] using h8
  · simpa only [Cond.before, Cond.holds, Cond.value] using h9
theorem zt_val {n : Nat} (l : List Int32) (h : ∀ x ∈ l, 0 ≤ x.toInt ∧ x.toInt ≤ 7) : 0 ≤ (l.getD n 0).toInt ∧ (l.getD n 0).toInt ≤ 7 := by
  rw [List.getD_eq_getElem?_getD]
  cases hk : l[n]? with
  | none => exact ⟨by decide, by decide⟩
  | some x => exact h x (List.mem_of_getElem? hk)
theorem zt_eqr {args : Array Value} {s : State} {t u : Term} {a : Nat} (h : (Cond.eq t u).before args s = true) (ht : t.eval args s none [] s = some (.ref a)) : u.eval args s none [] s = some (.ref a) := by
  cases hv : u.eval args s none [] s with
  | none => simp [Cond.before, Cond.holds, Cond.value, ht, hv] at h
  | some w =>
    simp only [Cond.before, Cond.holds, Cond.value, ht, hv] at h
    cases w <;> simp_all
def zv_FORMS_OF_NONE : List Int32 := [1, 1, 1, 1, 1, 5, 5, 0, 1, 1, 1, 1, 0, 0, 0, 0]
theorem zt_FORMS_OF_NONE {b : Nat} {s : State} (hts : ∀ w ∈ lw_tbl, w.before #[Value.ref b] s = true) (hgv : (Jvm.Cond.and given_1 narrow_1).before #[Value.ref b] s = true) : ∃ t : Nat, va_Z "StoryMachine$Instruction" "FORMS_OF_NONE" "[I" (.ref t) (fun q => s.heap.size ≤ q) s s.heap ∧ va_T .int t 16 (fun j => .int (zv_FORMS_OF_NONE.getD j 0)) (fun q => s.heap.size ≤ q) s s.heap := by
  have hs := flat_of_before _ hgv
  have hA : ∀ a : Nat, a < s.heap.size → ¬ s.heap.size ≤ a := fun a h => Nat.not_le.mpr h
  have hm : ∀ j, j < 16 → (Cond.eq (.elem (.static "StoryMachine$Instruction" "FORMS_OF_NONE" "[I") (.int (Int32.ofNat j))) (.int (zv_FORMS_OF_NONE.getD j 0))) ∈ flatC (Jvm.Cond.and given_1 narrow_1) := by decide +kernel
  have hl : (Cond.eq (.length (.static "StoryMachine$Instruction" "FORMS_OF_NONE" "[I")) (.int (Int32.ofNat 16))).before #[Value.ref b] s = true := hs _ (by decide +kernel)
  obtain ⟨t, e, hT⟩ := va_Tof (tm := .static "StoryMachine$Instruction" "FORMS_OF_NONE" "[I") (ty := .int) (N := 16) (f := fun j => .int (zv_FORMS_OF_NONE.getD j 0)) (A := fun q => s.heap.size ≤ q) (by decide) (hs _ (by decide +kernel)) (va_eqt hl) (fun j hj => va_eqt (hs _ (hm j hj))) hA
  exact ⟨t, va_Zref (hts _ (List.mem_append_right _ (List.mem_of_getElem? (i := 569) (by decide +kernel)))) (hts _ (List.mem_append_right _ (List.mem_of_getElem? (i := 11) (by decide +kernel)))) e hA, hT⟩
def zv_FORMS_OF_FIRST : List Int32 := [5, 7, 7, 3, 3, 1, 1, 1, 0, 1, 1, 1, 1, 1, 3, 3]
theorem zt_FORMS_OF_FIRST {b : Nat} {s : State} (hts : ∀ w ∈ lw_tbl, w.before #[Value.ref b] s = true) (hgv : (Jvm.Cond.and given_1 narrow_1).before #[Value.ref b] s = true) : ∃ t : Nat, va_Z "StoryMachine$Instruction" "FORMS_OF_FIRST" "[I" (.ref t) (fun q => s.heap.size ≤ q) s s.heap ∧ va_T .int t 16 (fun j => .int (zv_FORMS_OF_FIRST.getD j 0)) (fun q => s.heap.size ≤ q) s s.heap := by
  have hs := flat_of_before _ hgv
  have hA : ∀ a : Nat, a < s.heap.size → ¬ s.heap.size ≤ a := fun a h => Nat.not_le.mpr h
  have hm : ∀ j, j < 16 → (Cond.eq (.elem (.static "StoryMachine$Instruction" "FORMS_OF_FIRST" "[I") (.int (Int32.ofNat j))) (.int (zv_FORMS_OF_FIRST.getD j 0))) ∈ flatC (Jvm.Cond.and given_1 narrow_1) := by decide +kernel
  have hl : (Cond.eq (.length (.static "StoryMachine$Instruction" "FORMS_OF_FIRST" "[I")) (.int (Int32.ofNat 16))).before #[Value.ref b] s = true := hs _ (by decide +kernel)
  obtain ⟨t, e, hT⟩ := va_Tof (tm := .static "StoryMachine$Instruction" "FORMS_OF_FIRST" "[I") (ty := .int) (N := 16) (f := fun j => .int (zv_FORMS_OF_FIRST.getD j 0)) (A := fun q => s.heap.size ≤ q) (by decide) (hs _ (by decide +kernel)) (va_eqt hl) (fun j hj => va_eqt (hs _ (hm j hj))) hA
  exact ⟨t, va_Zref (hts _ (List.mem_append_right _ (List.mem_of_getElem? (i := 571) (by decide +kernel)))) (hts _ (List.mem_append_right _ (List.mem_of_getElem? (i := 11) (by decide +kernel)))) e hA, hT⟩
def zv_FORMS_OF_SECOND : List Int32 := [0, 5, 5, 5, 5, 5, 5, 5, 3, 3, 5, 1, 1, 1, 1, 3, 3, 3, 3, 3, 3, 3, 3, 3, 3, 0, 0, 0, 0, 0, 0, 0]
theorem zt_FORMS_OF_SECOND {b : Nat} {s : State} (hts : ∀ w ∈ lw_tbl, w.before #[Value.ref b] s = true) (hgv : (Jvm.Cond.and given_1 narrow_1).before #[Value.ref b] s = true) : ∃ t : Nat, va_Z "StoryMachine$Instruction" "FORMS_OF_SECOND" "[I" (.ref t) (fun q => s.heap.size ≤ q) s s.heap ∧ va_T .int t 32 (fun j => .int (zv_FORMS_OF_SECOND.getD j 0)) (fun q => s.heap.size ≤ q) s s.heap := by
  have hs := flat_of_before _ hgv
  have hA : ∀ a : Nat, a < s.heap.size → ¬ s.heap.size ≤ a := fun a h => Nat.not_le.mpr h
  have hm : ∀ j, j < 32 → (Cond.eq (.elem (.static "StoryMachine$Instruction" "FORMS_OF_SECOND" "[I") (.int (Int32.ofNat j))) (.int (zv_FORMS_OF_SECOND.getD j 0))) ∈ flatC (Jvm.Cond.and given_1 narrow_1) := by decide +kernel
  have hl : (Cond.eq (.length (.static "StoryMachine$Instruction" "FORMS_OF_SECOND" "[I")) (.int (Int32.ofNat 32))).before #[Value.ref b] s = true := hs _ (by decide +kernel)
  obtain ⟨t, e, hT⟩ := va_Tof (tm := .static "StoryMachine$Instruction" "FORMS_OF_SECOND" "[I") (ty := .int) (N := 32) (f := fun j => .int (zv_FORMS_OF_SECOND.getD j 0)) (A := fun q => s.heap.size ≤ q) (by decide) (hs _ (by decide +kernel)) (va_eqt hl) (fun j hj => va_eqt (hs _ (hm j hj))) hA
  exact ⟨t, va_Zref (hts _ (List.mem_append_right _ (List.mem_of_getElem? (i := 573) (by decide +kernel)))) (hts _ (List.mem_append_right _ (List.mem_of_getElem? (i := 11) (by decide +kernel)))) e hA, hT⟩
def zv_FORMS_OF_MANY : List Int32 := [3, 1, 1, 1, 1, 1, 1, 3, 1, 1]
theorem zt_FORMS_OF_MANY {b : Nat} {s : State} (hts : ∀ w ∈ lw_tbl, w.before #[Value.ref b] s = true) (hgv : (Jvm.Cond.and given_1 narrow_1).before #[Value.ref b] s = true) : ∃ t : Nat, va_Z "StoryMachine$Instruction" "FORMS_OF_MANY" "[I" (.ref t) (fun q => s.heap.size ≤ q) s s.heap ∧ va_T .int t 10 (fun j => .int (zv_FORMS_OF_MANY.getD j 0)) (fun q => s.heap.size ≤ q) s s.heap := by
  have hs := flat_of_before _ hgv
  have hA : ∀ a : Nat, a < s.heap.size → ¬ s.heap.size ≤ a := fun a h => Nat.not_le.mpr h
  have hm : ∀ j, j < 10 → (Cond.eq (.elem (.static "StoryMachine$Instruction" "FORMS_OF_MANY" "[I") (.int (Int32.ofNat j))) (.int (zv_FORMS_OF_MANY.getD j 0))) ∈ flatC (Jvm.Cond.and given_1 narrow_1) := by decide +kernel
  have hl : (Cond.eq (.length (.static "StoryMachine$Instruction" "FORMS_OF_MANY" "[I")) (.int (Int32.ofNat 10))).before #[Value.ref b] s = true := hs _ (by decide +kernel)
  obtain ⟨t, e, hT⟩ := va_Tof (tm := .static "StoryMachine$Instruction" "FORMS_OF_MANY" "[I") (ty := .int) (N := 10) (f := fun j => .int (zv_FORMS_OF_MANY.getD j 0)) (A := fun q => s.heap.size ≤ q) (by decide) (hs _ (by decide +kernel)) (va_eqt hl) (fun j hj => va_eqt (hs _ (hm j hj))) hA
  exact ⟨t, va_Zref (hts _ (List.mem_append_right _ (List.mem_of_getElem? (i := 575) (by decide +kernel)))) (hts _ (List.mem_append_right _ (List.mem_of_getElem? (i := 11) (by decide +kernel)))) e hA, hT⟩
def zv_NEEDS_OF_MANY : List Int32 := [1, 3, 3, 3, 2, 1, 1, 1, 1, 1]
theorem zt_NEEDS_OF_MANY {b : Nat} {s : State} (hts : ∀ w ∈ lw_tbl, w.before #[Value.ref b] s = true) (hgv : (Jvm.Cond.and given_1 narrow_1).before #[Value.ref b] s = true) : ∃ t : Nat, va_Z "StoryMachine$Instruction" "NEEDS_OF_MANY" "[I" (.ref t) (fun q => s.heap.size ≤ q) s s.heap ∧ va_T .int t 10 (fun j => .int (zv_NEEDS_OF_MANY.getD j 0)) (fun q => s.heap.size ≤ q) s s.heap := by
  have hs := flat_of_before _ hgv
  have hA : ∀ a : Nat, a < s.heap.size → ¬ s.heap.size ≤ a := fun a h => Nat.not_le.mpr h
  have hm : ∀ j, j < 10 → (Cond.eq (.elem (.static "StoryMachine$Instruction" "NEEDS_OF_MANY" "[I") (.int (Int32.ofNat j))) (.int (zv_NEEDS_OF_MANY.getD j 0))) ∈ flatC (Jvm.Cond.and given_1 narrow_1) := by decide +kernel
  have hl : (Cond.eq (.length (.static "StoryMachine$Instruction" "NEEDS_OF_MANY" "[I")) (.int (Int32.ofNat 10))).before #[Value.ref b] s = true := hs _ (by decide +kernel)
  obtain ⟨t, e, hT⟩ := va_Tof (tm := .static "StoryMachine$Instruction" "NEEDS_OF_MANY" "[I") (ty := .int) (N := 10) (f := fun j => .int (zv_NEEDS_OF_MANY.getD j 0)) (A := fun q => s.heap.size ≤ q) (by decide) (hs _ (by decide +kernel)) (va_eqt hl) (fun j hj => va_eqt (hs _ (hm j hj))) hA
  exact ⟨t, va_Zref (hts _ (List.mem_append_right _ (List.mem_of_getElem? (i := 581) (by decide +kernel)))) (hts _ (List.mem_append_right _ (List.mem_of_getElem? (i := 11) (by decide +kernel)))) e hA, hT⟩
def zv_S : List Int32 := [48, 49, 50, 51, 52, 53, 54, 55, 56, 57, 46, 44, 33, 63, 95, 35, 39, 34, 47, 92, 45, 58, 40, 41]
theorem zt_S {b : Nat} {s : State} (hts : ∀ w ∈ lw_tbl, w.before #[Value.ref b] s = true) (hgv : (Jvm.Cond.and given_1 narrow_1).before #[Value.ref b] s = true) : ∃ t u : Nat, va_O "java/lang/String" t (fun q => s.heap.size ≤ q) s s.heap ∧ va_OF "java/lang/String" "coder" "B" (.int 0) t (fun q => s.heap.size ≤ q) s s.heap ∧ va_OF "java/lang/String" "value" "[B" (.ref u) t (fun q => s.heap.size ≤ q) s s.heap ∧ va_T .byte u 24 (fun j => .int (zv_S.getD j 0)) (fun q => s.heap.size ≤ q) s s.heap ∧ vk_R "StoryMachine$Printer" 53 "0123456789.,!?_#'\"/\\-:()" t s ∧ vk_R "StoryMachine$Dictionary" 66 "0123456789.,!?_#'\"/\\-:()" t s := by
  have hs := flat_of_before _ hgv
  have hA : ∀ a : Nat, a < s.heap.size → ¬ s.heap.size ≤ a := fun a h => Nat.not_le.mpr h
  have hm : ∀ j, j < 24 → (Cond.eq (.elem (.field (.string "StoryMachine$Printer" 53) "java/lang/String" "value" "[B") (.int (Int32.ofNat j))) (.int (zv_S.getD j 0))) ∈ flatC (Jvm.Cond.and given_1 narrow_1) := by decide +kernel
  have hx : (Cond.exactly (.string "StoryMachine$Printer" 53) "java/lang/String").before #[Value.ref b] s = true := hs _ (by decide +kernel)
  have hc : (Cond.eq (.field (.string "StoryMachine$Printer" 53) "java/lang/String" "coder" "B") (.int 0)).before #[Value.ref b] s = true := hs _ (by decide +kernel)
  have ha : (Cond.arrayOf (.field (.string "StoryMachine$Printer" 53) "java/lang/String" "value" "[B") .byte).before #[Value.ref b] s = true := hs _ (by decide +kernel)
  have hl : (Cond.eq (.length (.field (.string "StoryMachine$Printer" 53) "java/lang/String" "value" "[B")) (.int (Int32.ofNat 24))).before #[Value.ref b] s = true := hs _ (by decide +kernel)
  have he : (Cond.eq (.string "StoryMachine$Printer" 53) (.string "StoryMachine$Dictionary" 66)).before #[Value.ref b] s = true := hs _ (by decide +kernel)
  obtain ⟨t, c, cA, kA, q1, q2, q3, q4, q5, q6, -⟩ := Cond.exactly_spec (args := #[Value.ref b]) (first := s) (o := none) (s := s) (idx := []) (t := .string "StoryMachine$Printer" 53) (cls := "java/lang/String") hx
  obtain ⟨u, hu, hT⟩ := va_Tof (tm := .field (.string "StoryMachine$Printer" 53) "java/lang/String" "value" "[B") (ty := .byte) (N := 24) (f := fun j => .int (zv_S.getD j 0)) (A := fun q => s.heap.size ≤ q) (by decide) ha (va_eqt hl) (fun j hj => va_eqt (hs _ (hm j hj))) hA
  exact ⟨t, u, ⟨cA, q3, q5, by rw [q6]; exact q2, hA t (Array.getElem?_eq_some_iff.mp q3).1⟩, vk_OFof q1 (va_eqt hc) hA, vk_OFof q1 hu hA, hT, vk_R.of (hts _ (List.mem_append_right _ (List.mem_of_getElem? (i := 658) (by decide +kernel)))) q1, vk_R.of (hts _ (List.mem_append_right _ (List.mem_of_getElem? (i := 923) (by decide +kernel)))) (zt_eqr he q1)⟩
theorem zs_start {b : Nat} {s : State} (hts : ∀ w ∈ lw_tbl, w.before #[Value.ref b] s = true) (hgv : (Jvm.Cond.and given_1 narrow_1).before #[Value.ref b] s = true) : ∃ t0 t1 t2 t3 t4 t5 t6 : Nat, ∀ (a : Nat → Nat) (ad : List Nat), a 100 = t0 → a 101 = t1 → a 102 = t2 → a 103 = t3 → a 104 = t4 → a 105 = t5 → a 106 = t6 → (∀ q ∈ ad, s.heap.size ≤ q) → zS a ad s := by
  have hs := flat_of_before _ hgv
  have hA : ∀ a : Nat, a < s.heap.size → ¬ s.heap.size ≤ a := fun a h => Nat.not_le.mpr h
  obtain ⟨t0, z0, f0⟩ := zt_FORMS_OF_NONE hts hgv
  obtain ⟨t1, z1, f1⟩ := zt_FORMS_OF_FIRST hts hgv
  obtain ⟨t2, z2, f2⟩ := zt_FORMS_OF_SECOND hts hgv
  obtain ⟨t3, z3, f3⟩ := zt_FORMS_OF_MANY hts hgv
  obtain ⟨t4, z4, f4⟩ := zt_NEEDS_OF_MANY hts hgv
  obtain ⟨t5, t6, g1, g2, g3, g4, r1, r2⟩ := zt_S hts hgv
  have c1 : (Cond.eq (.static "java/lang/String" "COMPACT_STRINGS" "Z") (.int 1)).before #[Value.ref b] s = true := hs _ (by decide +kernel)
  have c2 : (Cond.isRef (.static "jdk/internal/util/Preconditions" "SIOOBE_FORMATTER" "Ljava/util/function/BiFunction;")).before #[Value.ref b] s = true := hs _ (by decide +kernel)
  have k1 := va_Zof (A := fun q => s.heap.size ≤ q) (hts _ (List.mem_append_right _ (List.mem_of_getElem? (i := 668) (by decide +kernel)))) (hts _ (List.mem_append_right _ (List.mem_of_getElem? (i := 19) (by decide +kernel)))) (va_eqi c1) hA
  have k2 := va_Zqof (A := fun q => s.heap.size ≤ q) (hts _ (List.mem_append_right _ (List.mem_of_getElem? (i := 676) (by decide +kernel)))) (hts _ (List.mem_append_right _ (List.mem_of_getElem? (i := 21) (by decide +kernel)))) c2 hA
  refine ⟨t0, t1, t2, t3, t4, t5, t6, fun a ad e0 e1 e2 e3 e4 e5 e6 had => ?_⟩
  refine ⟨ts_start hts hgv, fun k hk => ?_, ?_, ⟨k1.narrow had, k2.narrow had⟩, ?_, ?_⟩
  · match k, hk with
    | 0, _ => exact ⟨by show va_Z _ _ _ (.ref (a 100)) _ _ _; rw [e0]; exact z0.narrow had, _, fun j => zt_val zv_FORMS_OF_NONE (by decide), by show va_T _ (a 100) _ _ _ _ _; rw [e0]; exact f0.narrow had⟩
    | 1, _ => exact ⟨by show va_Z _ _ _ (.ref (a 101)) _ _ _; rw [e1]; exact z1.narrow had, _, fun j => zt_val zv_FORMS_OF_FIRST (by decide), by show va_T _ (a 101) _ _ _ _ _; rw [e1]; exact f1.narrow had⟩
    | 2, _ => exact ⟨by show va_Z _ _ _ (.ref (a 102)) _ _ _; rw [e2]; exact z2.narrow had, _, fun j => zt_val zv_FORMS_OF_SECOND (by decide), by show va_T _ (a 102) _ _ _ _ _; rw [e2]; exact f2.narrow had⟩
    | 3, _ => exact ⟨by show va_Z _ _ _ (.ref (a 103)) _ _ _; rw [e3]; exact z3.narrow had, _, fun j => zt_val zv_FORMS_OF_MANY (by decide), by show va_T _ (a 103) _ _ _ _ _; rw [e3]; exact f3.narrow had⟩
    | 4, _ => exact ⟨by show va_Z _ _ _ (.ref (a 104)) _ _ _; rw [e4]; exact z4.narrow had, _, fun j => zt_val zv_NEEDS_OF_MANY (by decide), by show va_T _ (a 104) _ _ _ _ _; rw [e4]; exact f4.narrow had⟩
  · exact ⟨by rw [e5]; exact g1.narrow had, by rw [e5]; exact g2.narrow had, by rw [e5, e6]; exact g3.narrow had, _, by rw [e6]; exact g4.narrow had⟩
  · rw [e5]; exact r1
  · rw [e5]; exact r2
/-- what a start had of statics, every later state has that differs from it in fresh cells only -/
theorem zs_keep {a : Nat → Nat} {ad : List Nat} {s U : State} {A : Nat → Prop} {H : Heap} {locs : List Loc} (hA : A = (fun q => s.heap.size ≤ q)) (had : ∀ q ∈ ad, s.heap.size ≤ q) (h : zS a ad s) (hS : va_S A s.heap H locs) (hU : U.heap = H) (hW : s.WarmedH U.vm) : zS a ad U := by
  subst hA
  refine zS_keep hW (fun q cell h1 _ => ?_) (fun q cell h1 h2 => ?_) h
  · have hlt : q < s.heap.size := (Array.getElem?_eq_some_iff.mp h1).1
    rw [hU, hS.2.1 q hlt (Nat.not_le.mpr hlt), h1]
  · have hlt : q < s.heap.size := (Array.getElem?_eq_some_iff.mp h1).1
    exact absurd (had q h2) (Nat.not_le.mpr hlt)
section TJ
variable {p : Program} {l : Launch} {e : Env} {R : Room} {s : State} {m : MethodId} {args : Array Value} {below : List Frame} {meth : Method} {c : Code} {H H0 : Heap} {locs : List Loc} {cells slots : Nat} {Q : State → Prop} {D : va_G} {cl : List vw_C} {tys : List (ClassId × FieldType)} {ws : va_W} {A : Nat → Prop} {cc : ByteArray} {pc : Nat} {ls : Array Slot} {rest : List Value}
theorem ta_newJ (hexec : p.tables.exec = Jvm.exec) (hb : c.code = cc) (harr : (Cond.arrayClass .long).before args s = true) (hK : va_K D cl tys s) (t0 : Nat) {cJ : ClassId} (ht : tys[t0]? = some (cJ, .long)) (hP : va_P D cl ws H) (hD : va_D A ws) (hS : va_S A H0 H locs) (hA : ∀ q, H0.size ≤ q → A q)
    {n : Int32} {N' : Nat} (hn : ¬ n < 0) (hN : n.toNatClampNeg = N') (hbytes : N' * componentBytes .long ≤ 536870912) (hcells : cells + 1 ≤ R.cells) (hslots : slots + N' ≤ R.slots) (hdg : decode cc pc = .ok (.newarray .long, 2))
    (kk : ∀ (q : Nat) (H1 : Heap), va_P D cl (ws ++ [(q, .inl (cJ, N', .inr (.inl (fun _ => 0))))]) H1 → va_D A (ws ++ [(q, .inl (cJ, N', .inr (.inl (fun _ => 0))))]) → va_S A H0 H1 locs →
      W p l e R s m args below meth c H1 locs (cells + 1) (slots + N') Q (F0 m (pc + 2) ls (.ref q :: rest))) : W p l e R s m args below meth c H locs cells slots Q (F0 m pc ls (.int n :: rest)) := by
  refine va_newa (atype := ArrayType.long) (ty := FieldType.long) (n := n) (N' := N') (a0 := (N', .inr (.inl (fun _ => 0)))) hexec hb harr rfl hK hP hD hS hA (fun cA => rfl) hn hN hbytes hcells hslots hdg (fun q cA H1 hK1 hP1 hD1 hS1 => ?_)
  have h1 := (hK1.2 tys.length (cA, .long) (by simp)).2
  have h2 := (hK.2 t0 _ ht).2
  have h3 : cA = cJ := by
    have e1 : s.vm.findClass ("[" ++ FieldType.long.toString) = some cA := h1
    have e2 : s.vm.findClass ("[" ++ FieldType.long.toString) = some cJ := h2
    exact Option.some.inj (e1.symm.trans e2)
  subst h3
  exact kk q H1 hP1 hD1 hS1
end TJ
