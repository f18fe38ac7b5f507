/-! The characters of a long: the class takes them from the highest on, the reference from the lowest. -/
def tp (b : Int64) (n i : Int32) : Int32 := (b >>> ((8 * (n - 1 - i)).toInt64 &&& 63)).toInt32 &&& 255
def tv (b : Int64) (k : Nat) : Int64 := (b >>> (Int32.toInt64 (8 * nI k) &&& 63)) &&& 255
def tyC (b : Int64) (n : Int32) : Prop := ∃ j : Nat, j < n.toNatClampNeg ∧ ¬ (¬ tp b n (nI j) < 32 ∧ tp b n (nI j) ≤ 126)
theorem tv_toInt32 (x : Int64) : (x &&& 255).toInt = (x.toInt32 &&& 255).toInt := by
  have h1 : (x &&& 255).toBitVec = (x.toBitVec &&& 255#64) := rfl
  have h2 : (x.toInt32 &&& 255).toBitVec = ((x.toBitVec.setWidth 32) &&& 255#32) := by
    show (x.toInt32.toBitVec &&& (255 : Int32).toBitVec) = _
    rw [Int64.toBitVec_toInt32, BitVec.signExtend_eq_setWidth_of_le _ (by decide)]; rfl
  have e1 : (x &&& 255).toInt = (x.toBitVec &&& 255#64).toInt := rfl
  have e2 : (x.toInt32 &&& 255).toInt = ((x.toBitVec.setWidth 32) &&& 255#32).toInt := by rw [← h2]; rfl
  rw [e1, e2]
  have n1 : (x.toBitVec &&& 255#64).toNat = x.toBitVec.toNat % 256 := by
    rw [BitVec.toNat_and]; exact Nat.and_two_pow_sub_one_eq_mod _ 8
  have n2 : ((x.toBitVec.setWidth 32) &&& 255#32).toNat = x.toBitVec.toNat % 256 := by
    rw [BitVec.toNat_and, BitVec.toNat_setWidth]
    have := Nat.and_two_pow_sub_one_eq_mod (x.toBitVec.toNat % 2 ^ 32) 8
    rw [show (255#32).toNat = 2 ^ 8 - 1 from rfl, this]
    omega
  rw [BitVec.toInt_eq_toNat_of_lt (by rw [n1]; omega), BitVec.toInt_eq_toNat_of_lt (by rw [n2]; omega), n1, n2]
theorem tp_tv {b : Int64} {N j : Nat} (hN : N ≤ 8) (hj : j < N) : (tp b (nI N) (nI j)).toInt = (tv b (N - 1 - j)).toInt := by
  have e : nI N - 1 - nI j = nI (N - 1 - j) := by
    have e1 : nI N - 1 = nI (N - 1) := by
      have := nI_pred (N - 1)
      rwa [show N - 1 + 1 = N by omega] at this
    rw [e1, pk_sub (by omega)]
  unfold tp tv
  rw [e]
  exact (tv_toInt32 _).symm
theorem tv_good {b : Int64} {N j : Nat} (hN : N ≤ 8) (hj : j < N) : (¬ tp b (nI N) (nI j) < 32 ∧ tp b (nI N) (nI j) ≤ 126) ↔ (¬ tv b (N - 1 - j) < 32 ∧ ¬ 126 < tv b (N - 1 - j)) := by
  have h := tp_tv (b := b) hN hj
  have a1 : (32 : Int32).toInt = 32 := by decide
  have a2 : (126 : Int32).toInt = 126 := by decide
  have a3 : (32 : Int64).toInt = 32 := by decide
  have a4 : (126 : Int64).toInt = 126 := by decide
  rw [Int32.lt_iff_toInt_lt, Int32.le_iff_toInt_le, Int64.lt_iff_toInt_lt, Int64.lt_iff_toInt_lt, h, a1, a2, a3, a4]
  omega
theorem tyC_of {b : Int64} {N : Nat} (hN : N ≤ 8) {k : Nat} (hk : k < N) (h : ¬ (¬ tv b k < 32 ∧ ¬ 126 < tv b k)) : tyC b (nI N) := by
  refine ⟨N - 1 - k, by rw [nI_clamp (by omega)]; omega, fun hg => h ?_⟩
  have := (tv_good (b := b) hN (show N - 1 - k < N by omega)).mp hg
  rwa [show N - 1 - (N - 1 - k) = k by omega] at this
theorem tyC_not {b : Int64} {N : Nat} (hN : N ≤ 8) (h : ∀ k, k < N → ¬ tv b k < 32 ∧ ¬ 126 < tv b k) : ¬ tyC b (nI N) := by
  rintro ⟨j, hj, hg⟩
  rw [nI_clamp (by omega)] at hj
  exact hg ((tv_good hN hj).mpr (h _ (by omega)))
theorem tyC_here {b : Int64} {N : Nat} (hN : N ≤ 8) {j : Nat} (hj : j < N) (h : ¬ (¬ tp b (nI N) (nI j) < 32 ∧ tp b (nI N) (nI j) ≤ 126)) : tyC b (nI N) := ⟨j, by rw [nI_clamp (by omega)]; exact hj, h⟩
theorem tyC_none {b : Int64} {N : Nat} (hN : N ≤ 8) (h : ∀ j, j < N → ¬ tp b (nI N) (nI j) < 32 ∧ tp b (nI N) (nI j) ≤ 126) : ¬ tyC b (nI N) := by
  rintro ⟨j, hj, hg⟩
  rw [nI_clamp (by omega)] at hj
  exact hg (h j hj)
theorem ti_24 {N : Nat} (hN : N ≤ 8) : 0 + nI N ≤ 24 := by
  rw [show (0 : Int32) + nI N = nI (0 + N) from nI_add 0 N]
  exact nI_le (b := 24) (by omega) (by decide)
theorem ti_dec (k : Nat) : nI (k + 1) - 1 + Int32.ofInt (-1) = nI k - 1 := by
  rw [nI_pred, Int32.sub_eq_add_neg]; rfl
theorem ti_dneg : nI 0 - 1 < 0 := by decide
theorem ti_dpos {k : Nat} (hk : k < 8) : ¬ nI (k + 1) - 1 < 0 := by rw [nI_pred]; exact nI_pos (by omega)
