/-! PURE: the class's numbers as integers -/
theorem j_add {a b : Int64} (h1 : -9223372036854775808 ≤ a.toInt + b.toInt) (h2 : a.toInt + b.toInt < 9223372036854775808) : (a + b).toInt = a.toInt + b.toInt := by
  rw [Int64.toInt_add]
  exact Int.bmod_eq_of_le (by omega) (by omega)
theorem j_sub {a b : Int64} (h1 : -9223372036854775808 ≤ a.toInt - b.toInt) (h2 : a.toInt - b.toInt < 9223372036854775808) : (a - b).toInt = a.toInt - b.toInt := by
  rw [Int64.toInt_sub]
  exact Int.bmod_eq_of_le (by omega) (by omega)
theorem j_mul {a b : Int64} (h1 : -9223372036854775808 ≤ a.toInt * b.toInt) (h2 : a.toInt * b.toInt < 9223372036854775808) : (a * b).toInt = a.toInt * b.toInt := by
  rw [Int64.toInt_mul]
  exact Int.bmod_eq_of_le (by omega) (by omega)
theorem i_add {a b : Int32} (h1 : -2147483648 ≤ a.toInt + b.toInt) (h2 : a.toInt + b.toInt < 2147483648) : (a + b).toInt = a.toInt + b.toInt := by
  rw [Int32.toInt_add]
  exact Int.bmod_eq_of_le (by omega) (by omega)
theorem i_sub {a b : Int32} (h1 : -2147483648 ≤ a.toInt - b.toInt) (h2 : a.toInt - b.toInt < 2147483648) : (a - b).toInt = a.toInt - b.toInt := by
  rw [Int32.toInt_sub]
  exact Int.bmod_eq_of_le (by omega) (by omega)
theorem i_mul {a b : Int32} (h1 : -2147483648 ≤ a.toInt * b.toInt) (h2 : a.toInt * b.toInt < 2147483648) : (a * b).toInt = a.toInt * b.toInt := by
  rw [Int32.toInt_mul]
  exact Int.bmod_eq_of_le (by omega) (by omega)
theorem j_shl : ∀ i, i < 10 → ∀ d, d < 14 → ((nI d).toInt64 <<< ((4 * (9 - nI i)).toInt64 &&& 63)).toInt = (d : Int) * 16 ^ (9 - i) := by decide +kernel
theorem j_pow : ∀ i, i < 10 → (16 : Int) ^ (9 - i) ≤ 68719476736 := by decide +kernel
theorem j_pow0 : ∀ i, i < 10 → (0 : Int) < 16 ^ (9 - i) := by decide +kernel
/-- what a seating of p at d costs -/
def cI (S : ds_S) (p d : Nat) : Int := (1000 - (S.1 10 p d).toInt) * 17592186044416 + (if pe_wm S p (nI d) = 0 then 0 else 1099511627776) + (d : Int) * 16 ^ (9 - p)
theorem cI_range {S : ds_S} {p d : Nat} (hw0 : 0 ≤ (S.1 10 p d).toInt) (hw1 : (S.1 10 p d).toInt ≤ 1000) (hp : p < 10) (hd : d < 14) : 0 ≤ cI S p d ∧ cI S p d ≤ 18014398509481984 := by
  unfold cI
  have h1 := j_pow p hp
  have h0 := j_pow0 p hp
  have h2 : 0 ≤ (d : Int) * 16 ^ (9 - p) := Int.mul_nonneg (by omega) (by omega)
  have h3 : (d : Int) * 16 ^ (9 - p) ≤ 13 * 68719476736 := Int.mul_le_mul (by omega) h1 (by omega) (by omega)
  split <;> omega
theorem pe_costI {S : ds_S} {p d : Nat} (hw0 : 0 ≤ (S.1 10 p d).toInt) (hw1 : (S.1 10 p d).toInt ≤ 1000) (hp : p < 10) (hd : d < 14) : (pe_cost S p d).toInt = cI S p d := by
  have h1 := j_pow p hp
  have h0 := j_pow0 p hp
  have h2 : 0 ≤ (d : Int) * 16 ^ (9 - p) := Int.mul_nonneg (by omega) (by omega)
  have h3 : (d : Int) * 16 ^ (9 - p) ≤ 13 * 68719476736 := Int.mul_le_mul (by omega) h1 (by omega) (by omega)
  have e1 : ((1000 : Int32) - S.1 10 p d).toInt = 1000 - (S.1 10 p d).toInt := i_sub (by show _ ≤ (1000 : Int) - _; omega) (by show (1000 : Int) - _ < _; omega)
  have e2 : ((1000 : Int32) - S.1 10 p d).toInt64.toInt = 1000 - (S.1 10 p d).toInt := by rw [Int32.toInt_toInt64, e1]
  have e3 : (((1000 : Int32) - S.1 10 p d).toInt64 * 17592186044416).toInt = (1000 - (S.1 10 p d).toInt) * 17592186044416 := by
    have h := j_mul (a := ((1000 : Int32) - S.1 10 p d).toInt64) (b := 17592186044416) (by rw [e2]; show _ ≤ _ * (17592186044416 : Int); omega) (by rw [e2]; show _ * (17592186044416 : Int) < _; omega)
    rw [h, e2]
    rfl
  unfold pe_cost cI
  split
  · rw [j_add (by rw [e3, j_shl p hp d hd]; omega) (by rw [e3, j_shl p hp d hd]; omega), e3, j_shl p hp d hd]
    omega
  · have e4 : (((1000 : Int32) - S.1 10 p d).toInt64 * 17592186044416 + 1099511627776).toInt = (1000 - (S.1 10 p d).toInt) * 17592186044416 + 1099511627776 := by
      have h := j_add (a := ((1000 : Int32) - S.1 10 p d).toInt64 * 17592186044416) (b := 1099511627776) (by rw [e3]; show _ ≤ _ + (1099511627776 : Int); omega) (by rw [e3]; show _ + (1099511627776 : Int) < _; omega)
      rw [h, e3]
      rfl
    rw [j_add (by rw [e4, j_shl p hp d hd]; omega) (by rw [e4, j_shl p hp d hd]; omega), e4, j_shl p hp d hd]
