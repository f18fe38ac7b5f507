/-! Small numbers. -/
theorem ti_rng {x : Int32} {M : Int32} {n : Nat} (h1 : ¬ x < 0) (h2 : x < M) (hM : M.toInt = n) : vp_in x n := by
  rw [vp_in_iff]
  have h1' := Int32.not_lt.mp h1
  rw [Int32.le_iff_toInt_le, Int32.toInt_zero] at h1'
  rw [Int32.lt_iff_toInt_lt] at h2
  omega
theorem ti_m1 {x : Int32} (h1 : ¬ x < (-1)) (h2 : ¬ 0 ≤ x) : x = (-1) := by
  have h1' := Int32.not_lt.mp h1
  have h2' := Int32.not_le.mp h2
  rw [Int32.le_iff_toInt_le] at h1'
  rw [Int32.lt_iff_toInt_lt, Int32.toInt_zero] at h2'
  have e : (-1 : Int32).toInt = -1 := by decide
  rw [e] at h1'
  exact Int32.toInt_inj.mp (by rw [e]; omega)
theorem ti_pos {x : Int32} (h1 : ¬ x < 0) (h2 : ¬ x = 0) : 0 < x := by
  have h1' := Int32.not_lt.mp h1
  rw [Int32.le_iff_toInt_le, Int32.toInt_zero] at h1'
  rw [Int32.lt_iff_toInt_lt, Int32.toInt_zero]
  rcases Int.lt_or_eq_of_le h1' with h | h
  · exact h
  · exact absurd (Int32.toInt_inj.mp (by rw [Int32.toInt_zero]; exact h.symm)) h2
