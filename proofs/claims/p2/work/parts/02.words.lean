/-! One list of words for all: lw_tbl. Every word of it stays true under warmer tables. -/
def tw_ok : Cond → Bool
  | .arrayClass _ => true
  | .methodLinkNest _ _ _ _ => true
  | .declares _ => true
  | .castable _ _ => true
  | w => w.onTables && w.keeps
theorem tw_warm {w : Cond} (h : tw_ok w = true) {args a' : Array Value} {s U : State} (hW : s.WarmedH U.vm) (hb : w.before args s = true) : w.before a' U = true := by
  cases w with
  | methodLinkNest a i x h => exact va_Nw.use rfl (va_Nw.warmM hW (va_Nw.of rfl hb))
  | declares x => exact va_Nw.use rfl (va_Nw.warmD hW (va_Nw.of rfl hb))
  | castable C T => exact va_Nw.use rfl (va_Nw.warmC hW (va_Nw.of rfl hb))
  | arrayClass ty => exact word_at hW (Or.inr ⟨ty, rfl⟩) hb
  | _ => exact word_at hW (Or.inl h) hb
/-- the words that contracts lean on: those of lw_tbl that hang on the tables alone -/
def tw_tbl : List Cond := lw_tbl.filter tw_ok
theorem tw_mem {w : Cond} (h : w ∈ lw_tbl) (hw : tw_ok w = true) : w ∈ tw_tbl := List.mem_filter.mpr ⟨h, hw⟩
theorem tw_of {args : Array Value} {s : State} (hts : ∀ w ∈ lw_tbl, w.before args s = true) : ∀ w ∈ tw_tbl, w.before args s = true := fun w hw => hts w (List.mem_filter.mp hw).1
theorem tw_ws {args : Array Value} {s : State} (hts : ∀ w ∈ tw_tbl, w.before args s = true) : ∀ w ∈ tw_tbl, ∀ (a' : Array Value) (U : State), s.WarmedH U.vm → w.before a' U = true :=
  fun w hw _ _ hW => tw_warm (List.mem_filter.mp hw).2 hW (hts w hw)
