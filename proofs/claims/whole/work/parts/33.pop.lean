/-! 33.pop: Long.bitCount's sums count the bits -/
section POP
theorem and_split {k a c m d : Nat} (ha : a < 2 ^ k) (hm : m < 2 ^ k) : (2 ^ k * c + a) &&& (2 ^ k * d + m) = 2 ^ k * (c &&& d) + (a &&& m) := by
  have h3 : a &&& m < 2 ^ k := Nat.lt_of_le_of_lt Nat.and_le_left ha
  apply Nat.eq_of_testBit_eq
  intro i
  rw [Nat.testBit_and, Nat.testBit_two_pow_mul_add _ ha, Nat.testBit_two_pow_mul_add _ hm, Nat.testBit_two_pow_mul_add _ h3]
  split <;> rw [Nat.testBit_and]
/-- a mask of eight like bytes, seen from the lowest one -/
theorem mask_low {z m K : Nat} (hz : z < 2 ^ 56) (hm : m < 2 ^ 56) : z &&& (2 ^ 56 * K + m) = z &&& m := by
  have h := and_split (k := 56) (a := z) (c := 0) (m := m) (d := K) hz hm
  rw [Nat.mul_zero, Nat.zero_add, Nat.zero_and, Nat.mul_zero, Nat.zero_add] at h
  exact h
theorem lo1 : ∀ b, b < 256 → ∀ t, t < 2 → (128 * t + b / 2 &&& 85) = b / 2 &&& 85 := by decide +kernel
theorem lo2 : ∀ b, b < 256 → ∀ t, t < 4 → (64 * t + b / 4 &&& 51) = b / 4 &&& 51 := by decide +kernel
theorem c55 : 6148914691236517205 = 2 ^ 8 * 24019198012642645 + 85 := by decide
theorem c55' : 6148914691236517205 = 2 ^ 56 * 85 + 24019198012642645 := by decide
theorem c33 : 3689348814741910323 = 2 ^ 8 * 14411518807585587 + 51 := by decide
theorem c33' : 3689348814741910323 = 2 ^ 56 * 51 + 14411518807585587 := by decide
theorem c0f : 1085102592571150095 = 2 ^ 8 * 4238682002231055 + 15 := by decide
theorem c0f' : 1085102592571150095 = 2 ^ 56 * 15 + 4238682002231055 := by decide
theorem w1_256 {y b : Nat} (hy : y < 2 ^ 56) (hb : b < 256) : w1 (2 ^ 8 * y + b) = 2 ^ 8 * w1 y + w1 b := by
  have e1 : (2 ^ 8 * y + b) / 2 ^ 1 = 2 ^ 8 * (y / 2) + (128 * (y % 2) + b / 2) := by omega
  have e2 : (2 ^ 8 * y + b) / 2 ^ 1 &&& 6148914691236517205 = 2 ^ 8 * (y / 2 &&& 24019198012642645) + (b / 2 &&& 85) := by
    rw [e1, c55, and_split (k := 8) (by omega) (by decide), lo1 b hb (y % 2) (by omega)]
  have e3 : y / 2 ^ 1 &&& 6148914691236517205 = y / 2 &&& 24019198012642645 := by
    rw [c55', mask_low (by omega) (by decide)]
  have e4 : b / 2 ^ 1 &&& 6148914691236517205 = b / 2 &&& 85 := by
    have h := and_split (k := 8) (a := b / 2) (c := 0) (m := 85) (d := 24019198012642645) (by omega) (by decide)
    rw [Nat.mul_zero, Nat.zero_add, Nat.zero_and, Nat.mul_zero, Nat.zero_add] at h
    rw [c55]
    exact h
  have l1 : y / 2 &&& 24019198012642645 ≤ y / 2 := Nat.and_le_left
  have l2 : b / 2 &&& 85 ≤ b / 2 := Nat.and_le_left
  unfold w1
  rw [e2, e3, e4]
  omega
theorem w1_b : ∀ b, b < 256 → w1 b < 256 := fun b hb => Nat.lt_of_le_of_lt (Nat.sub_le _ _) hb
theorem w1_y {y : Nat} (hy : y < 2 ^ 56) : w1 y < 2 ^ 56 := Nat.lt_of_le_of_lt (Nat.sub_le _ _) hy
theorem w2_256 {y b : Nat} (hy : y < 2 ^ 56) (hb : b < 256) : w2 (2 ^ 8 * y + b) = 2 ^ 8 * w2 y + w2 b := by
  have e1 : (2 ^ 8 * y + b) / 2 ^ 2 = 2 ^ 8 * (y / 4) + (64 * (y % 4) + b / 4) := by omega
  have e2 : (2 ^ 8 * y + b) / 2 ^ 2 &&& 3689348814741910323 = 2 ^ 8 * (y / 4 &&& 14411518807585587) + (b / 4 &&& 51) := by
    rw [e1, c33, and_split (k := 8) (by omega) (by decide), lo2 b hb (y % 4) (by omega)]
  have e2' : 2 ^ 8 * y + b &&& 3689348814741910323 = 2 ^ 8 * (y &&& 14411518807585587) + (b &&& 51) := by
    rw [c33, and_split (k := 8) hb (by decide)]
  have e3 : y / 2 ^ 2 &&& 3689348814741910323 = y / 4 &&& 14411518807585587 := by
    rw [c33', mask_low (by omega) (by decide)]
  have e3' : y &&& 3689348814741910323 = y &&& 14411518807585587 := by
    rw [c33', mask_low hy (by decide)]
  have z : ∀ a, a < 256 → a &&& 3689348814741910323 = a &&& 51 := fun a ha => by
    have h := and_split (k := 8) (a := a) (c := 0) (m := 51) (d := 14411518807585587) ha (by decide)
    rw [Nat.mul_zero, Nat.zero_add, Nat.zero_and, Nat.mul_zero, Nat.zero_add] at h
    rw [c33]
    exact h
  unfold w2
  rw [e2, e2', e3, e3', z b hb, show b / 2 ^ 2 &&& 3689348814741910323 = b / 4 &&& 51 from z (b / 4) (by omega)]
  omega
theorem w2_b : ∀ b, b < 256 → w2 (w1 b) < 256 ∧ w2 (w1 b) + w2 (w1 b) / 16 < 256 := by decide +kernel
theorem w2_y {y : Nat} (hy : y < 2 ^ 56) : w2 y + w2 y / 16 < 2 ^ 56 := by
  have h1 : y &&& 3689348814741910323 ≤ 14411518807585587 := by
    rw [c33', mask_low hy (by decide)]
    exact Nat.and_le_right
  have h2 : y / 2 ^ 2 &&& 3689348814741910323 ≤ 14411518807585587 := by
    rw [c33', mask_low (by omega) (by decide)]
    exact Nat.and_le_right
  unfold w2
  omega
theorem lo3 : ∀ b, b < 256 → ∀ t, t < 16 → ((w2 (w1 b) + (16 * t + w2 (w1 b) / 16)) % 256 &&& 15) = (w2 (w1 b) + w2 (w1 b) / 16 &&& 15) ∧ w2 (w1 b) + (16 * t + w2 (w1 b) / 16) < 512 := by decide +kernel
theorem pop_all : ∀ b, b < 256 → w3 (w2 (w1 b)) ≤ 8 ∧ w3 (w2 (w1 b)) = b2 (b.testBit 0) + b2 (b.testBit 1) + b2 (b.testBit 2) + b2 (b.testBit 3) + b2 (b.testBit 4) + b2 (b.testBit 5) + b2 (b.testBit 6) + b2 (b.testBit 7) := by decide +kernel
end POP
