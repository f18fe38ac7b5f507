/-! Small numbers. -/
theorem ti_rng {x : Int32} {M : Int32} {n : Nat} (h1 : ¬ x < 0) (h2 : x < M) (hM : M.toInt = n) : vp_in x n := by
  rw [vp_in_iff]
  have h1' := Int32.not_lt.mp h1
  rw [Int32.le_iff_toInt_le, Int32.toInt_zero] at h1'
  rw [Int32.lt_iff_toInt_lt] at h2
  omega
theorem ti_m1 {x : Int32} (h1 : ¬ x < (-1)) (h2 : ¬ 0 ≤ x) : x = (-1) := by
  have h1' := Int32.not_lt.mp h1
  have h2' := Int32.not_le.mp h2
  rw [Int32.le_iff_toInt_le] at h1'
  rw [Int32.lt_iff_toInt_lt, Int32.toInt_zero] at h2'
  have e : (-1 : Int32).toInt = -1 := by decide
  rw [e] at h1'
  exact Int32.toInt_inj.mp (by rw [e]; omega)
theorem ti_pos {x : Int32} (h1 : ¬ x < 0) (h2 : ¬ x = 0) : 0 < x := by
  have h1' := Int32.not_lt.mp h1
  rw [Int32.le_iff_toInt_le, Int32.toInt_zero] at h1'
  rw [Int32.lt_iff_toInt_lt, Int32.toInt_zero]
  rcases Int.lt_or_eq_of_le h1' with h | h
  · exact h
  · exact absurd (Int32.toInt_inj.mp (by rw [Int32.toInt_zero]; exact h.symm)) h2
theorem ti_511 {x : Int32} (h : x ≤ 511) : x < 512 := by
  rw [Int32.le_iff_toInt_le] at h
  rw [Int32.lt_iff_toInt_lt]
  have e1 : (511 : Int32).toInt = 511 := by decide
  have e2 : (512 : Int32).toInt = 512 := by decide
  omega
theorem ti_n511 {x : Int32} (h : ¬ x ≤ 511) : ¬ x < 512 := by
  rw [Int32.le_iff_toInt_le] at h
  rw [Int32.lt_iff_toInt_lt]
  have e1 : (511 : Int32).toInt = 511 := by decide
  have e2 : (512 : Int32).toInt = 512 := by decide
  omega
theorem ti_64 {x : Int32} (h : 63 < x) : 64 ≤ x := by
  rw [Int32.lt_iff_toInt_lt] at h
  rw [Int32.le_iff_toInt_le]
  have e1 : (63 : Int32).toInt = 63 := by decide
  have e2 : (64 : Int32).toInt = 64 := by decide
  omega
theorem ti_n64 {x : Int32} (h : ¬ 63 < x) : ¬ 64 ≤ x := by
  rw [Int32.lt_iff_toInt_lt] at h
  rw [Int32.le_iff_toInt_le]
  have e1 : (63 : Int32).toInt = 63 := by decide
  have e2 : (64 : Int32).toInt = 64 := by decide
  omega
