/-! 34.pop2: Long.bitCount's sums count the bits, second half -/
section POP2
def pG (x : Nat) : Nat := w3 (w2 (w1 x))
theorem lo4 : ∀ b, b < 256 → ∀ t, t < 5 → (w2 (w1 b) + (16 * t + w2 (w1 b) / 16) &&& 15) = (w2 (w1 b) + w2 (w1 b) / 16 &&& 15) ∧ w2 (w1 b) + (16 * t + w2 (w1 b) / 16) < 256 := by decide +kernel
theorem lo5 : ∀ b, b < 256 → w2 (w1 b) % 16 < 5 := by decide +kernel
theorem nib {y : Nat} (hy : y < 2 ^ 56) : w2 (w1 y) % 16 < 5 := by
  have e : y = 2 ^ 8 * (y / 256) + y % 256 := by omega
  rw [e, w1_256 (by omega) (by omega), w2_256 (w1_y (by omega)) (w1_b _ (by omega))]
  have := lo5 (y % 256) (by omega)
  omega
theorem pG_256 {y b : Nat} (hy : y < 2 ^ 56) (hb : b < 256) : pG (2 ^ 8 * y + b) = 2 ^ 8 * pG y + pG b := by
  unfold pG
  rw [w1_256 hy hb, w2_256 (w1_y hy) (w1_b b hb)]
  have hn := nib hy
  have hY := w2_y (w1_y hy)
  have h4 := lo4 b hb (w2 (w1 y) % 16) hn
  have hB := w2_b b hb
  generalize w2 (w1 y) = Y at hn hY h4 ⊢
  generalize w2 (w1 b) = B at h4 hB ⊢
  have e1 : 2 ^ 8 * Y + B + (2 ^ 8 * Y + B) / 2 ^ 4 = 2 ^ 8 * (Y + Y / 16) + (B + (16 * (Y % 16) + B / 16)) := by omega
  have e2 : Y + Y / 2 ^ 4 &&& 1085102592571150095 = Y + Y / 16 &&& 4238682002231055 := by
    rw [c0f', mask_low (show Y + Y / 2 ^ 4 < 2 ^ 56 by omega) (by decide)]
  have e3 : B + B / 2 ^ 4 &&& 1085102592571150095 = B + B / 16 &&& 15 := by
    have h := and_split (k := 8) (a := B + B / 16) (c := 0) (m := 15) (d := 4238682002231055) hB.2 (by decide)
    rw [Nat.mul_zero, Nat.zero_add, Nat.zero_and, Nat.mul_zero, Nat.zero_add] at h
    rw [c0f]
    exact h
  unfold w3
  rw [e1, e2, e3, c0f, and_split (k := 8) h4.2 (by decide), h4.1]
theorem pop_fin {A B hi lo : Nat} (h1 : lo < 2 ^ 32) (h2 : lo % 128 = A) (h3 : hi % 128 = B) (h4 : A + B < 128) : (2 ^ 32 * hi + lo + (2 ^ 32 * hi + lo) / 2 ^ 32) % 2 ^ 7 = A + B := by
  have e : (2 ^ 32 * hi + lo) / 2 ^ 32 = hi := by omega
  rw [e]
  omega
theorem swar_sum {x : Nat} (hx : x < 2 ^ 64) : swar x = pG (x % 256) + pG (x / 256 % 256) + pG (x / 256 / 256 % 256) + pG (x / 256 / 256 / 256 % 256) + pG (x / 256 / 256 / 256 / 256 % 256) + pG (x / 256 / 256 / 256 / 256 / 256 % 256) + pG (x / 256 / 256 / 256 / 256 / 256 / 256 % 256) + pG (x / 256 / 256 / 256 / 256 / 256 / 256 / 256 % 256) := by
  have g0 : pG (x) = 2 ^ 8 * pG (x / 256) + pG (x % 256) := by
    have e : 2 ^ 8 * (x / 256) + x % 256 = x := by omega
    have h := pG_256 (y := x / 256) (b := x % 256) (by omega) (by omega)
    rw [e] at h
    exact h
  have g1 : pG (x / 256) = 2 ^ 8 * pG (x / 256 / 256) + pG (x / 256 % 256) := by
    have e : 2 ^ 8 * (x / 256 / 256) + x / 256 % 256 = x / 256 := by omega
    have h := pG_256 (y := x / 256 / 256) (b := x / 256 % 256) (by omega) (by omega)
    rw [e] at h
    exact h
  have g2 : pG (x / 256 / 256) = 2 ^ 8 * pG (x / 256 / 256 / 256) + pG (x / 256 / 256 % 256) := by
    have e : 2 ^ 8 * (x / 256 / 256 / 256) + x / 256 / 256 % 256 = x / 256 / 256 := by omega
    have h := pG_256 (y := x / 256 / 256 / 256) (b := x / 256 / 256 % 256) (by omega) (by omega)
    rw [e] at h
    exact h
  have g3 : pG (x / 256 / 256 / 256) = 2 ^ 8 * pG (x / 256 / 256 / 256 / 256) + pG (x / 256 / 256 / 256 % 256) := by
    have e : 2 ^ 8 * (x / 256 / 256 / 256 / 256) + x / 256 / 256 / 256 % 256 = x / 256 / 256 / 256 := by omega
    have h := pG_256 (y := x / 256 / 256 / 256 / 256) (b := x / 256 / 256 / 256 % 256) (by omega) (by omega)
    rw [e] at h
    exact h
  have g4 : pG (x / 256 / 256 / 256 / 256) = 2 ^ 8 * pG (x / 256 / 256 / 256 / 256 / 256) + pG (x / 256 / 256 / 256 / 256 % 256) := by
    have e : 2 ^ 8 * (x / 256 / 256 / 256 / 256 / 256) + x / 256 / 256 / 256 / 256 % 256 = x / 256 / 256 / 256 / 256 := by omega
    have h := pG_256 (y := x / 256 / 256 / 256 / 256 / 256) (b := x / 256 / 256 / 256 / 256 % 256) (by omega) (by omega)
    rw [e] at h
    exact h
  have g5 : pG (x / 256 / 256 / 256 / 256 / 256) = 2 ^ 8 * pG (x / 256 / 256 / 256 / 256 / 256 / 256) + pG (x / 256 / 256 / 256 / 256 / 256 % 256) := by
    have e : 2 ^ 8 * (x / 256 / 256 / 256 / 256 / 256 / 256) + x / 256 / 256 / 256 / 256 / 256 % 256 = x / 256 / 256 / 256 / 256 / 256 := by omega
    have h := pG_256 (y := x / 256 / 256 / 256 / 256 / 256 / 256) (b := x / 256 / 256 / 256 / 256 / 256 % 256) (by omega) (by omega)
    rw [e] at h
    exact h
  have g6 : pG (x / 256 / 256 / 256 / 256 / 256 / 256) = 2 ^ 8 * pG (x / 256 / 256 / 256 / 256 / 256 / 256 / 256) + pG (x / 256 / 256 / 256 / 256 / 256 / 256 % 256) := by
    have e : 2 ^ 8 * (x / 256 / 256 / 256 / 256 / 256 / 256 / 256) + x / 256 / 256 / 256 / 256 / 256 / 256 % 256 = x / 256 / 256 / 256 / 256 / 256 / 256 := by omega
    have h := pG_256 (y := x / 256 / 256 / 256 / 256 / 256 / 256 / 256) (b := x / 256 / 256 / 256 / 256 / 256 / 256 % 256) (by omega) (by omega)
    rw [e] at h
    exact h
  have g7 : x / 256 / 256 / 256 / 256 / 256 / 256 / 256 % 256 = x / 256 / 256 / 256 / 256 / 256 / 256 / 256 := by omega
  have s0 := (pop_all (x % 256) (by omega)).1
  have s0 : pG (x % 256) ≤ 8 := s0
  have s1 := (pop_all (x / 256 % 256) (by omega)).1
  have s1 : pG (x / 256 % 256) ≤ 8 := s1
  have s2 := (pop_all (x / 256 / 256 % 256) (by omega)).1
  have s2 : pG (x / 256 / 256 % 256) ≤ 8 := s2
  have s3 := (pop_all (x / 256 / 256 / 256 % 256) (by omega)).1
  have s3 : pG (x / 256 / 256 / 256 % 256) ≤ 8 := s3
  have s4 := (pop_all (x / 256 / 256 / 256 / 256 % 256) (by omega)).1
  have s4 : pG (x / 256 / 256 / 256 / 256 % 256) ≤ 8 := s4
  have s5 := (pop_all (x / 256 / 256 / 256 / 256 / 256 % 256) (by omega)).1
  have s5 : pG (x / 256 / 256 / 256 / 256 / 256 % 256) ≤ 8 := s5
  have s6 := (pop_all (x / 256 / 256 / 256 / 256 / 256 / 256 % 256) (by omega)).1
  have s6 : pG (x / 256 / 256 / 256 / 256 / 256 / 256 % 256) ≤ 8 := s6
  have s7 := (pop_all (x / 256 / 256 / 256 / 256 / 256 / 256 / 256 % 256) (by omega)).1
  have s7 : pG (x / 256 / 256 / 256 / 256 / 256 / 256 / 256 % 256) ≤ 8 := s7
  rw [g7] at s7 ⊢
  unfold swar
  rw [show (127 : Nat) = 2 ^ 7 - 1 from rfl, Nat.and_two_pow_sub_one_eq_mod]
  show w4 32 (w4 16 (w4 8 (pG x))) % 2 ^ 7 = _
  rw [g0, g1, g2, g3, g4, g5, g6]
  generalize pG (x % 256) = t0 at *
  generalize pG (x / 256 % 256) = t1 at *
  generalize pG (x / 256 / 256 % 256) = t2 at *
  generalize pG (x / 256 / 256 / 256 % 256) = t3 at *
  generalize pG (x / 256 / 256 / 256 / 256 % 256) = t4 at *
  generalize pG (x / 256 / 256 / 256 / 256 / 256 % 256) = t5 at *
  generalize pG (x / 256 / 256 / 256 / 256 / 256 / 256 % 256) = t6 at *
  generalize pG (x / 256 / 256 / 256 / 256 / 256 / 256 / 256) = t7 at *
  clear hx g0 g1 g2 g3 g4 g5 g6 g7
  unfold w4
  have a1 : ∀ z, z = 2 ^ 8 * (2 ^ 8 * (2 ^ 8 * (2 ^ 8 * (2 ^ 8 * (2 ^ 8 * (2 ^ 8 * t7 + t6) + t5) + t4) + t3) + t2) + t1) + t0 → z + z / 2 ^ 8 = 2 ^ 8 * (2 ^ 8 * (2 ^ 8 * (2 ^ 8 * (2 ^ 8 * (2 ^ 8 * (2 ^ 8 * t7 + (t6 + t7)) + (t5 + t6)) + (t4 + t5)) + (t3 + t4)) + (t2 + t3)) + (t1 + t2)) + (t0 + t1) := fun z hz => by omega
  rw [a1 _ rfl]
  have a2 : ∀ z, z = 2 ^ 8 * (2 ^ 8 * (2 ^ 8 * (2 ^ 8 * (2 ^ 8 * (2 ^ 8 * (2 ^ 8 * t7 + (t6 + t7)) + (t5 + t6)) + (t4 + t5)) + (t3 + t4)) + (t2 + t3)) + (t1 + t2)) + (t0 + t1) → ∃ hi, z + z / 2 ^ 16 = 2 ^ 32 * hi + (2 ^ 16 * ((t2 + t3 + t4 + t5) + 2 ^ 8 * (t3 + t4 + t5 + t6)) + (2 ^ 8 * (t1 + t2 + t3 + t4) + (t0 + t1 + t2 + t3))) ∧ hi = t4 + t5 + t6 + t7 + 2 ^ 8 * (t5 + t6 + t7 + 0) + 2 ^ 16 * (t6 + t7 + 2 ^ 8 * t7) := fun z hz => ⟨_, by omega, rfl⟩
  obtain ⟨hi, a3, a4⟩ := a2 _ rfl
  rw [a3]
  have h1 := pop_fin (A := t0 + t1 + t2 + t3) (B := t4 + t5 + t6 + t7) (hi := hi) (lo := 2 ^ 16 * ((t2 + t3 + t4 + t5) + 2 ^ 8 * (t3 + t4 + t5 + t6)) + (2 ^ 8 * (t1 + t2 + t3 + t4) + (t0 + t1 + t2 + t3))) (by omega) (by omega) (by omega) (by omega)
  rw [h1]
  omega
theorem byte_bit {x k i : Nat} (hi : i < 8) : (x / 2 ^ k % 256).testBit i = x.testBit (k + i) := by
  rw [show (256 : Nat) = 2 ^ 8 from rfl, Nat.testBit_mod_two_pow, Nat.testBit_div_two_pow, decide_eq_true hi, Bool.true_and, Nat.add_comm]
theorem swar_cnt {x : Nat} (hx : x < 2 ^ 49) (h0 : x.testBit 0 = false) : swar x = y_cnt x 48 := by
  have hz : ∀ i, 49 ≤ i → x.testBit i = false := fun i hi => Nat.testBit_lt_two_pow (Nat.lt_of_lt_of_le hx (Nat.pow_le_pow_right (by decide) hi))
  have f : ∀ j, pG (x / 2 ^ (8 * j) % 256) = b2 (x.testBit (8 * j + 0)) + b2 (x.testBit (8 * j + 1)) + b2 (x.testBit (8 * j + 2)) + b2 (x.testBit (8 * j + 3)) + b2 (x.testBit (8 * j + 4)) + b2 (x.testBit (8 * j + 5)) + b2 (x.testBit (8 * j + 6)) + b2 (x.testBit (8 * j + 7)) := fun j => by
    have h := (pop_all (x / 2 ^ (8 * j) % 256) (Nat.mod_lt _ (by decide))).2
    rw [byte_bit (i := 0) (by decide), byte_bit (i := 1) (by decide), byte_bit (i := 2) (by decide), byte_bit (i := 3) (by decide), byte_bit (i := 4) (by decide), byte_bit (i := 5) (by decide), byte_bit (i := 6) (by decide), byte_bit (i := 7) (by decide)] at h
    exact h
  have d0 := f 0
  have d1 := f 1
  have d2 := f 2
  have d3 := f 3
  have d4 := f 4
  have d5 := f 5
  have d6 := f 6
  have d7 := f 7
  rw [swar_sum (Nat.lt_trans hx (by decide))]
  have q0 : x / 2 ^ (8 * 0) = x := by simp
  have q1 : x / 2 ^ (8 * 1) = x / 256 := rfl
  have q2 : x / 2 ^ (8 * 2) = x / 256 / 256 := by
    simp only [Nat.div_div_eq_div_mul]
  have q3 : x / 2 ^ (8 * 3) = x / 256 / 256 / 256 := by
    simp only [Nat.div_div_eq_div_mul]
  have q4 : x / 2 ^ (8 * 4) = x / 256 / 256 / 256 / 256 := by
    simp only [Nat.div_div_eq_div_mul]
  have q5 : x / 2 ^ (8 * 5) = x / 256 / 256 / 256 / 256 / 256 := by
    simp only [Nat.div_div_eq_div_mul]
  have q6 : x / 2 ^ (8 * 6) = x / 256 / 256 / 256 / 256 / 256 / 256 := by
    simp only [Nat.div_div_eq_div_mul]
  have q7 : x / 2 ^ (8 * 7) = x / 256 / 256 / 256 / 256 / 256 / 256 / 256 := by
    simp only [Nat.div_div_eq_div_mul]
  rw [q0] at d0
  rw [q1] at d1
  rw [q2] at d2
  rw [q3] at d3
  rw [q4] at d4
  rw [q5] at d5
  rw [q6] at d6
  rw [q7] at d7
  rw [d0, d1, d2, d3, d4, d5, d6, d7]
  simp only [y_cnt, it, Nat.reduceMul, Nat.reduceAdd, Nat.zero_add]
  rw [h0, hz 49 (by decide), hz 50 (by decide), hz 51 (by decide), hz 52 (by decide), hz 53 (by decide), hz 54 (by decide), hz 55 (by decide), hz 56 (by decide), hz 57 (by decide), hz 58 (by decide), hz 59 (by decide), hz 60 (by decide), hz 61 (by decide), hz 62 (by decide), hz 63 (by decide)]
  simp only [show b2 false = 0 from rfl]
  omega
end POP2
