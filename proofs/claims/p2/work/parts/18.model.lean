/-! The reference's object behind a call: its field 'thrown' holds k. -/
def tm_Mo (D : va_G) (cl : List vw_C) (h0 : Nat) (k : Int32) (A : Nat → Prop) (t : State) : Prop := ∃ fs : List Value, fs[0]? = some (.int k) ∧ va_P D cl [(h0, .inr (11, fs))] t.heap ∧ va_D A [(h0, .inr (11, fs))]
