/-! numbers of 32 and 64 bits by their integers -/
theorem zn_i32 (x : Int32) : -2147483648 ≤ x.toInt ∧ x.toInt ≤ 2147483647 := by
  have h1 := Int32.le_toInt x
  have h2 := Int32.toInt_lt x
  exact ⟨by simpa using h1, by omega⟩
theorem zn_i64 (x : Int64) : -9223372036854775808 ≤ x.toInt ∧ x.toInt ≤ 9223372036854775807 := by
  have h1 := Int64.le_toInt x
  have h2 := Int64.toInt_lt x
  exact ⟨by simpa using h1, by omega⟩
theorem zn_b32 {x : Int} (h1 : -2147483648 ≤ x) (h2 : x ≤ 2147483647) : x.bmod (2 ^ 32) = x := Int.bmod_eq_of_le (by omega) (by omega)
theorem zn_b64 {x : Int} (h1 : -9223372036854775808 ≤ x) (h2 : x ≤ 9223372036854775807) : x.bmod (2 ^ 64) = x := Int.bmod_eq_of_le (by omega) (by omega)
theorem zn_add {x y : Int32} (h1 : -2147483648 ≤ x.toInt + y.toInt) (h2 : x.toInt + y.toInt ≤ 2147483647) : (x + y).toInt = x.toInt + y.toInt := by rw [Int32.toInt_add, zn_b32 h1 h2]
theorem zn_sub {x y : Int32} (h1 : -2147483648 ≤ x.toInt - y.toInt) (h2 : x.toInt - y.toInt ≤ 2147483647) : (x - y).toInt = x.toInt - y.toInt := by rw [Int32.toInt_sub, zn_b32 h1 h2]
theorem zn_mul {x y : Int32} (h1 : -2147483648 ≤ x.toInt * y.toInt) (h2 : x.toInt * y.toInt ≤ 2147483647) : (x * y).toInt = x.toInt * y.toInt := by rw [Int32.toInt_mul, zn_b32 h1 h2]
theorem zn_neg {x : Int32} (h1 : -2147483648 ≤ -x.toInt) (h2 : -x.toInt ≤ 2147483647) : (-x).toInt = -x.toInt := by rw [Int32.toInt_neg, zn_b32 h1 h2]
theorem zn_addL {x y : Int64} (h1 : -9223372036854775808 ≤ x.toInt + y.toInt) (h2 : x.toInt + y.toInt ≤ 9223372036854775807) : (x + y).toInt = x.toInt + y.toInt := by rw [Int64.toInt_add, zn_b64 h1 h2]
theorem zn_subL {x y : Int64} (h1 : -9223372036854775808 ≤ x.toInt - y.toInt) (h2 : x.toInt - y.toInt ≤ 9223372036854775807) : (x - y).toInt = x.toInt - y.toInt := by rw [Int64.toInt_sub, zn_b64 h1 h2]
theorem zn_mulL {x y : Int64} (h1 : -9223372036854775808 ≤ x.toInt * y.toInt) (h2 : x.toInt * y.toInt ≤ 9223372036854775807) : (x * y).toInt = x.toInt * y.toInt := by rw [Int64.toInt_mul, zn_b64 h1 h2]
theorem zn_negL {x : Int64} (h1 : -9223372036854775808 ≤ -x.toInt) (h2 : -x.toInt ≤ 9223372036854775807) : (-x).toInt = -x.toInt := by rw [Int64.toInt_neg, zn_b64 h1 h2]
theorem zn_tb {x k : Int} (hk : 0 < k) : k * x.tdiv k ≤ x + (k - 1) ∧ x - (k - 1) ≤ k * x.tdiv k := by
  have h := Int.mul_tdiv_add_tmod x k
  have h3 : x.tmod k < k := Int.tmod_lt_of_pos x hk
  have h4 : -k < x.tmod k := by
    have h5 := Int.tmod_lt_of_pos (-x) hk
    rw [Int.neg_tmod] at h5
    omega
  omega
theorem zn_t0 {x k : Int} (hk : 0 < k) (hx : 0 ≤ x) : k * x.tdiv k ≤ x ∧ 0 ≤ x.tdiv k := by
  have h := Int.mul_tdiv_add_tmod x k
  have h3 : 0 ≤ x.tmod k := Int.tmod_nonneg k hx
  exact ⟨by omega, Int.tdiv_nonneg hx (Int.le_of_lt hk)⟩
theorem zn_tle {x k : Int} (hk : 0 < k) : -(x.natAbs : Int) ≤ x.tdiv k ∧ x.tdiv k ≤ (x.natAbs : Int) := by
  have h : (x.tdiv k).natAbs ≤ x.natAbs := by
    rw [Int.natAbs_tdiv]
    exact Nat.div_le_self _ _
  omega
theorem zn_div {x y : Int32} (hk : 0 < y.toInt) : (x / y).toInt = x.toInt.tdiv y.toInt := by
  have h1 := zn_i32 x
  have h2 := zn_tle (x := x.toInt) hk
  have h3 : -2147483648 ≤ x.toInt.tdiv y.toInt ∧ x.toInt.tdiv y.toInt ≤ 2147483647 := by
    rcases Int.lt_or_le x.toInt 0 with h | h
    · have h4 := Int.tdiv_nonneg (a := -x.toInt) (b := y.toInt) (by omega) (Int.le_of_lt hk)
      rw [Int.neg_tdiv] at h4
      omega
    · omega
  rw [Int32.toInt_div, zn_b32 h3.1 h3.2]
theorem zn_divL {x y : Int64} (hk : 0 < y.toInt) : (x / y).toInt = x.toInt.tdiv y.toInt := by
  have h1 := zn_i64 x
  have h2 := zn_tle (x := x.toInt) hk
  have h3 : -9223372036854775808 ≤ x.toInt.tdiv y.toInt ∧ x.toInt.tdiv y.toInt ≤ 9223372036854775807 := by
    rcases Int.lt_or_le x.toInt 0 with h | h
    · have h4 := Int.tdiv_nonneg (a := -x.toInt) (b := y.toInt) (by omega) (Int.le_of_lt hk)
      rw [Int.neg_tdiv] at h4
      omega
    · omega
  rw [Int64.toInt_div, zn_b64 h3.1 h3.2]
theorem zn_tm {x k : Int} (hk : 0 < k) : -(k - 1) ≤ x - x.tdiv k * k ∧ x - x.tdiv k * k ≤ k - 1 ∧ (0 ≤ x → 0 ≤ x - x.tdiv k * k ∧ x - x.tdiv k * k ≤ x) := by
  have h := zn_tb (x := x) hk
  rw [Int.mul_comm]
  refine ⟨by omega, by omega, fun h0 => ?_⟩
  have h2 := zn_t0 hk h0
  refine ⟨by omega, ?_⟩
  have h3 := Int.mul_nonneg (Int.le_of_lt hk) h2.2
  omega
theorem zn_rem {x y : Int32} (hk : 0 < y.toInt) : (x - x / y * y).toInt = x.toInt - x.toInt.tdiv y.toInt * y.toInt := by
  have h1 := zn_i32 x
  have h2 := zn_i32 y
  have h3 := zn_div (x := x) hk
  have h4 := zn_tm (x := x.toInt) hk
  have h6 : -2147483648 ≤ x.toInt.tdiv y.toInt * y.toInt ∧ x.toInt.tdiv y.toInt * y.toInt ≤ 2147483647 := by
    have h5 := Int.mul_tdiv_add_tmod x.toInt y.toInt
    rcases Int.lt_or_le x.toInt 0 with h | h
    · have h7 : 0 ≤ (-x.toInt).tmod y.toInt := Int.tmod_nonneg _ (by omega)
      rw [Int.neg_tmod] at h7
      rw [Int.mul_comm]
      have h8 := Int.mul_nonneg (Int.le_of_lt hk) (Int.tdiv_nonneg (a := -x.toInt) (by omega) (Int.le_of_lt hk))
      rw [Int.neg_tdiv, Int.mul_neg] at h8
      omega
    · have h7 := zn_t0 hk h
      rw [Int.mul_comm]
      have h8 := Int.mul_nonneg (Int.le_of_lt hk) h7.2
      omega
  have h5 : (x / y * y).toInt = x.toInt.tdiv y.toInt * y.toInt := by rw [zn_mul (by rw [h3]; exact h6.1) (by rw [h3]; exact h6.2), h3]
  rw [zn_sub (by rw [h5]; omega) (by rw [h5]; omega), h5]
theorem zn_remL {x y : Int64} (hk : 0 < y.toInt) : (x - x / y * y).toInt = x.toInt - x.toInt.tdiv y.toInt * y.toInt := by
  have h1 := zn_i64 x
  have h2 := zn_i64 y
  have h3 := zn_divL (x := x) hk
  have h4 := zn_tm (x := x.toInt) hk
  have h6 : -9223372036854775808 ≤ x.toInt.tdiv y.toInt * y.toInt ∧ x.toInt.tdiv y.toInt * y.toInt ≤ 9223372036854775807 := by
    have h5 := Int.mul_tdiv_add_tmod x.toInt y.toInt
    rcases Int.lt_or_le x.toInt 0 with h | h
    · have h7 : 0 ≤ (-x.toInt).tmod y.toInt := Int.tmod_nonneg _ (by omega)
      rw [Int.neg_tmod] at h7
      rw [Int.mul_comm]
      have h8 := Int.mul_nonneg (Int.le_of_lt hk) (Int.tdiv_nonneg (a := -x.toInt) (by omega) (Int.le_of_lt hk))
      rw [Int.neg_tdiv, Int.mul_neg] at h8
      omega
    · have h7 := zn_t0 hk h
      rw [Int.mul_comm]
      have h8 := Int.mul_nonneg (Int.le_of_lt hk) h7.2
      omega
  have h5 : (x / y * y).toInt = x.toInt.tdiv y.toInt * y.toInt := by rw [zn_mulL (by rw [h3]; exact h6.1) (by rw [h3]; exact h6.2), h3]
  rw [zn_subL (by rw [h5]; omega) (by rw [h5]; omega), h5]
theorem zn_i2l (x : Int32) : x.toInt64.toInt = x.toInt := Int32.toInt_toInt64 x
theorem zn_l2i {x : Int64} (h1 : -2147483648 ≤ x.toInt) (h2 : x.toInt ≤ 2147483647) : x.toInt32.toInt = x.toInt := by rw [Int64.toInt_toInt32, zn_b32 h1 h2]
theorem zn_i8 (x : Int8) : -128 ≤ x.toInt ∧ x.toInt ≤ 127 := by
  have h1 := Int8.le_toInt x
  have h2 := Int8.toInt_lt x
  exact ⟨by simpa using h1, by omega⟩
theorem zn_i2b (x : Int32) : -128 ≤ x.toInt8.toInt32.toInt ∧ x.toInt8.toInt32.toInt ≤ 127 := by
  rw [Int8.toInt_toInt32]; exact zn_i8 _
theorem zn_cmp (x y : Int64) : -1 ≤ (lg_cmp x y).toInt ∧ (lg_cmp x y).toInt ≤ 1 := by
  unfold lg_cmp
  split
  · decide
  · split <;> decide
