/-! Two shapes side by side. -/
theorem sh_mem {sh : sh_W} {q : Nat} (h : q ∈ sh.map (fun x => x.1)) : ∃ (k : Nat) (x : Nat × sh_C), sh[k]? = some x ∧ x.1 = q := by
  obtain ⟨x, hx, rfl⟩ := List.mem_map.mp h
  obtain ⟨k, hk⟩ := List.getElem?_of_mem hx
  exact ⟨k, x, hk, rfl⟩
theorem sh_in_lt {D : va_G} {cl : List vw_C} {cI cJ : ClassId} {sh : sh_W} {H : Heap} (h : sh_I D cl cI cJ sh H) {q : Nat} (hq : q ∈ sh.map (fun x => x.1)) : q < H.size := by
  obtain ⟨ws, hok, hP, hD⟩ := h
  obtain ⟨k, x, hk, rfl⟩ := sh_mem hq
  obtain ⟨e, h1, h2⟩ := hok.2 k x hk
  exact (hP k _ h1).lt
theorem sh_app {D : va_G} {cl : List vw_C} {cI cJ : ClassId} {s1 s2 : sh_W} {H : Heap} (h : sh_I D cl cI cJ (s1 ++ s2) H) : sh_I D cl cI cJ s1 H ∧ sh_I D cl cI cJ s2 H ∧ ∀ q, q ∈ s1.map (fun x => x.1) → q ∈ s2.map (fun x => x.1) → False := by
  obtain ⟨ws, ⟨hl, hk⟩, hP, hD⟩ := h
  rw [List.length_append] at hl
  have ht : ∀ (k : Nat) (q : Nat × va_E), (ws.take s1.length)[k]? = some q → ws[k]? = some q := fun k q hq => by
    rw [List.getElem?_take] at hq
    split at hq
    · exact hq
    · cases hq
  have hd : ∀ (k : Nat) (q : Nat × va_E), (ws.drop s1.length)[k]? = some q → ws[s1.length + k]? = some q := fun k q hq => by
    rw [List.getElem?_drop] at hq
    exact hq
  have h1 : ∀ (k : Nat) (x : Nat × sh_C), s1[k]? = some x → ∃ e, ws[k]? = some (x.1, e) ∧ sh_c cI cJ x.2 e := fun k x hx => hk k x (by rw [List.getElem?_append_left (sh_lt hx)]; exact hx)
  have h2 : ∀ (k : Nat) (x : Nat × sh_C), s2[k]? = some x → ∃ e, ws[s1.length + k]? = some (x.1, e) ∧ sh_c cI cJ x.2 e := fun k x hx => hk (s1.length + k) x (by rw [List.getElem?_append_right (by omega), Nat.add_sub_cancel_left]; exact hx)
  refine ⟨⟨ws.take s1.length, ⟨by rw [List.length_take]; omega, fun k x hx => ?_⟩, fun k q hq => hP k q (ht k q hq), ⟨fun i j p q hi hj e => hD.1 i j p q (ht i p hi) (ht j q hj) e, fun _ _ _ => trivial⟩⟩, ⟨ws.drop s1.length, ⟨by rw [List.length_drop]; omega, fun k x hx => ?_⟩, fun k q hq => hP _ q (hd k q hq), ⟨fun i j p q hi hj e => ?_, fun _ _ _ => trivial⟩⟩, fun q hq1 hq2 => ?_⟩
  · obtain ⟨e, g1, g2⟩ := h1 k x hx
    exact ⟨e, by rw [List.getElem?_take, if_pos (sh_lt hx)]; exact g1, g2⟩
  · obtain ⟨e, g1, g2⟩ := h2 k x hx
    exact ⟨e, by rw [List.getElem?_drop]; exact g1, g2⟩
  · have := hD.1 _ _ p q (hd i p hi) (hd j q hj) e
    omega
  · obtain ⟨i, x, hi, rfl⟩ := sh_mem hq1
    obtain ⟨j, y, hj, hxy⟩ := sh_mem hq2
    obtain ⟨e1, g1, -⟩ := h1 i x hi
    obtain ⟨e2, g2, -⟩ := h2 j y hj
    have := hD.1 _ _ _ _ g1 g2 hxy.symm
    have := sh_lt hi
    omega
theorem sh_glue {D : va_G} {cl : List vw_C} {cI cJ : ClassId} {s1 s2 : sh_W} {H : Heap} (h1 : sh_I D cl cI cJ s1 H) (h2 : sh_I D cl cI cJ s2 H) (hd : ∀ q, q ∈ s1.map (fun x => x.1) → q ∈ s2.map (fun x => x.1) → False) : sh_I D cl cI cJ (s1 ++ s2) H := by
  obtain ⟨w1, o1, p1, d1⟩ := h1
  obtain ⟨w2, o2, p2, d2⟩ := h2
  have hin1 : ∀ (k : Nat) (q : Nat × va_E), w1[k]? = some q → q.1 ∈ s1.map (fun x => x.1) := fun k q hk => by
    have hlt : k < s1.length := by rw [← o1.1]; exact (List.getElem?_eq_some_iff.mp hk).1
    obtain ⟨e, g1, -⟩ := o1.2 k _ (List.getElem?_eq_getElem hlt)
    rw [hk] at g1
    cases g1
    exact List.mem_map_of_mem (List.getElem_mem hlt)
  have hin2 : ∀ (k : Nat) (q : Nat × va_E), w2[k]? = some q → q.1 ∈ s2.map (fun x => x.1) := fun k q hk => by
    have hlt : k < s2.length := by rw [← o2.1]; exact (List.getElem?_eq_some_iff.mp hk).1
    obtain ⟨e, g1, -⟩ := o2.2 k _ (List.getElem?_eq_getElem hlt)
    rw [hk] at g1
    cases g1
    exact List.mem_map_of_mem (List.getElem_mem hlt)
  have sp : ∀ (k : Nat) (q : Nat × va_E), (w1 ++ w2)[k]? = some q → (k < w1.length ∧ w1[k]? = some q) ∨ (w1.length ≤ k ∧ w2[k - w1.length]? = some q) := fun k q hk => by
    rcases Nat.lt_or_ge k w1.length with h | h
    · rw [List.getElem?_append_left h] at hk; exact Or.inl ⟨h, hk⟩
    · rw [List.getElem?_append_right h] at hk; exact Or.inr ⟨h, hk⟩
  refine ⟨w1 ++ w2, ⟨by rw [List.length_append, List.length_append, o1.1, o2.1], fun k x hx => ?_⟩, fun k q hk => ?_, ⟨fun i j p q hi hj e => ?_, fun _ _ _ => trivial⟩⟩
  · rcases Nat.lt_or_ge k s1.length with h | h
    · rw [List.getElem?_append_left h] at hx
      obtain ⟨e, g1, g2⟩ := o1.2 k x hx
      exact ⟨e, by rw [List.getElem?_append_left (by rw [o1.1]; exact h)]; exact g1, g2⟩
    · rw [List.getElem?_append_right h] at hx
      obtain ⟨e, g1, g2⟩ := o2.2 _ x hx
      exact ⟨e, by rw [List.getElem?_append_right (by rw [o1.1]; exact h), o1.1]; exact g1, g2⟩
  · rcases sp k q hk with ⟨-, h⟩ | ⟨-, h⟩
    · exact p1 _ q h
    · exact p2 _ q h
  · rcases sp i p hi with ⟨a1, a2⟩ | ⟨a1, a2⟩ <;> rcases sp j q hj with ⟨b1, b2⟩ | ⟨b1, b2⟩
    · exact d1.1 i j p q a2 b2 e
    · exact (hd p.1 (hin1 i p a2) (by rw [e]; exact hin2 _ q b2)).elim
    · exact (hd q.1 (hin1 j q b2) (by rw [← e]; exact hin2 _ p a2)).elim
    · have := d2.1 _ _ p q a2 b2 e
      omega
theorem sh_off {D : va_G} {cl : List vw_C} {cI cJ : ClassId} {sh : sh_W} {H H1 : Heap} (h : sh_I D cl cI cJ sh H) (hk : ∀ q, q ∈ sh.map (fun x => x.1) → H1[q]? = H[q]?) : sh_I D cl cI cJ sh H1 := by
  obtain ⟨ws, hok, hP, hD⟩ := h
  refine ⟨ws, hok, hP.kept (fun k q hq => hk q.1 ?_), hD⟩
  have hlt : k < sh.length := by rw [← hok.1]; exact (List.getElem?_eq_some_iff.mp hq).1
  obtain ⟨e, g1, -⟩ := hok.2 k _ (List.getElem?_eq_getElem hlt)
  rw [hq] at g1
  cases g1
  exact List.mem_map_of_mem (List.getElem_mem hlt)
theorem sh_callC {D : va_G} {cl : List vw_C} {cI cJ : ClassId} {s1 s1' s2 : sh_W} {ad : List Nat} {H H1 : Heap} (h : sh_I D cl cI cJ (s1 ++ s2) H) (hm : s1.map (fun x => x.1) = ad) (hm' : s1'.map (fun x => x.1) = ad) (hk : ∀ q : Nat, q < H.size → ¬ ga ad H.size q → H1[q]? = H[q]?) (h1 : sh_I D cl cI cJ s1' H1) : sh_I D cl cI cJ (s1' ++ s2) H1 := by
  obtain ⟨-, g2, hd⟩ := sh_app h
  refine sh_glue h1 (sh_off g2 (fun q hq => hk q (sh_in_lt g2 hq) (ga_out (sh_in_lt g2 hq) (fun z => hd q (by rw [hm]; exact z) hq)))) (fun q z hq => hd q (by rw [hm, ← hm']; exact z) hq)
theorem sh_callM {D : va_G} {cl : List vw_C} {cI cJ : ClassId} {s1 s2 s2' : sh_W} {ad : List Nat} {H H1 : Heap} (h : sh_I D cl cI cJ (s1 ++ s2) H) (hm : s2.map (fun x => x.1) = ad) (hm' : s2'.map (fun x => x.1) = ad) (hk : ∀ q : Nat, q < H.size → ¬ ga ad H.size q → H1[q]? = H[q]?) (h1 : sh_I D cl cI cJ s2' H1) : sh_I D cl cI cJ (s1 ++ s2') H1 := by
  obtain ⟨g1, -, hd⟩ := sh_app h
  refine sh_glue (sh_off g1 (fun q hq => hk q (sh_in_lt g1 hq) (ga_out (sh_in_lt g1 hq) (fun z => hd q hq (by rw [hm]; exact z))))) h1 (fun q hq z => hd q hq (by rw [hm, ← hm']; exact z))
/-! A world of fresh cells has a shape. -/
theorem sh_ok0 {cI cJ : ClassId} : sh_ok cI cJ [] [] := ⟨rfl, fun k x hk => by cases hk⟩
theorem sh_okc {cI cJ : ClassId} {sh : sh_W} {ws : va_W} {q : Nat} {c : sh_C} {e : va_E} (hc : sh_c cI cJ c e) (h : sh_ok cI cJ sh ws) : sh_ok cI cJ ((q, c) :: sh) ((q, e) :: ws) := by
  refine ⟨by rw [List.length_cons, List.length_cons, h.1], fun k x hk => ?_⟩
  cases k with
  | zero => cases hk; exact ⟨e, rfl, hc⟩
  | succ k => exact h.2 k x hk
def fo_ok (fs : List sh_F) (vs : List Value) : Prop := vs.length = fs.length ∧ ∀ (k : Nat) (f : sh_F), fs[k]? = some f → ∃ v, vs[k]? = some v ∧ sh_f f v
theorem fo_0 : fo_ok [] [] := ⟨rfl, fun k x hk => by cases hk⟩
theorem fo_c {f : sh_F} {v : Value} {fs : List sh_F} {vs : List Value} (hv : sh_f f v) (h : fo_ok fs vs) : fo_ok (f :: fs) (v :: vs) := by
  refine ⟨by rw [List.length_cons, List.length_cons, h.1], fun k x hk => ?_⟩
  cases k with
  | zero => cases hk; exact ⟨v, rfl, hv⟩
  | succ k => exact h.2 k x hk
theorem sc_obj {cI cJ : ClassId} {ci : Nat} {fs : List sh_F} {vs : List Value} (h : fo_ok fs vs) : sh_c cI cJ (cO ci fs) (.inr (ci, vs)) := ⟨vs, rfl, h.1, h.2⟩
theorem sc_arr {cI cJ : ClassId} {n : Nat} {P : (Nat → Int32) → Prop} {f : Nat → Int32} (h : P f) : sh_c cI cJ (cA n P) (.inl (cI, n, .inl f)) := ⟨f, h, rfl⟩
theorem sc_lar {cI cJ : ClassId} {n : Nat} {f : Nat → Int64} : sh_c cI cJ (cL n) (.inl (cJ, n, .inr (.inl f))) := ⟨f, rfl⟩
theorem sf_i {lo hi : Int} {x : Int32} (h1 : lo ≤ x.toInt) (h2 : x.toInt ≤ hi) : sh_f (fI lo hi) (.int x) := ⟨x, rfl, h1, h2⟩
theorem rg_0 {lo hi : Int} (h1 : lo ≤ 0) (h2 : 0 ≤ hi) : rg lo hi (fun _ => 0) := fun _ => ⟨h1, h2⟩
section STE
variable {p : Program} {l : Launch} {e : Env} {R : Room} {s : State} {m : MethodId} {args : Array Value} {below : List Frame} {meth : Method} {c : Code} {H : Heap} {locs : List Loc} {cells slots : Nat} {Q : State → Prop} {pc : Nat} {ls : Array Slot} {rest : List Value}
theorem sn_tope {x : Int32} (k : ∀ y : Int32, y = x → W p l e R s m args below meth c H locs cells slots Q (F0 m pc ls (.int y :: rest))) : W p l e R s m args below meth c H locs cells slots Q (F0 m pc ls (.int x :: rest)) := k x rfl
end STE
theorem slw_0 : slw (fun _ => 0) (fun _ => 0) := fun _ => ⟨(by decide : (0 : Int) ≤ (0 : Int32).toInt), (by decide : (0 : Int) ≤ (0 : Int32).toInt), (by decide : (0 : Int32).toInt + (0 : Int32).toInt ≤ (24 : Int))⟩
