/-! 58.form1: both form with the same nodes, and the least is the holder -/
section FORM1
variable {c : Nat} {σ τ : Nat → Nat → Nat}
theorem x_upin_bit {a n k : Nat} : (x_upin σ a k).testBit n = decide (n < k ∧ (σ 1 n ≠ 0 ∧ σ 5 n = a)) := or_bits (P := fun n => σ 1 n ≠ 0 ∧ σ 5 n = a) k
theorem y_av_bit {a n : Nat} : ∀ j c, (y_av τ a j c).testBit n = (c.testBit n || (decide (n < j) && y_inA τ a n))
  | 0, c => by
    rw [y_av, decide_eq_false (by omega), Bool.false_and, Bool.or_false]
  | j + 1, c => by
    rw [y_av, y_av_bit j]
    by_cases e : n = j
    · subst e
      rw [decide_eq_false (Nat.lt_irrefl n), decide_eq_true (Nat.lt_succ_self n), Bool.false_and, Bool.or_false, Bool.true_and]
      cases hz : y_inA τ a n with
      | true => rw [if_pos rfl, Nat.testBit_or, Nat.testBit_two_pow, decide_eq_true rfl]
      | false => rw [if_neg (by decide), Bool.or_false]
    · have e1 : decide (n < j + 1) = decide (n < j) := decide_eq_decide.mpr (by omega)
      rw [e1]
      refine congrArg (fun x => x || (decide (n < j) && y_inA τ a n)) ?_
      split
      · rw [Nat.testBit_or, Nat.testBit_two_pow, decide_eq_false (fun z => e z.symm), Bool.or_false]
      · rfl
theorem y_all_bit {a n : Nat} : (y_all τ a).testBit n = (decide (n < 5) && y_inA τ a n) := by
  unfold y_all
  rw [y_av_bit, Nat.zero_testBit, Bool.false_or]
theorem Sim.upin (h : Sim c σ τ) {a : Nat} : x_upin σ a 5 = y_all τ a := by
  refine Nat.eq_of_testBit_eq (fun i => ?_)
  rw [x_upin_bit, y_all_bit]
  by_cases hi : i < 5
  · have hN := (h.2.2.2.1 i hi).1
    rw [decide_eq_true hi, Bool.true_and]
    exact decide_eq_decide.mpr ⟨fun z => ⟨fun y => z.2.1 (hN.1.mpr y), by rw [← hN.2.1]; exact z.2.2⟩, fun z => ⟨hi, fun y => z.1 (hN.1.mp y), by rw [hN.2.1]; exact z.2⟩⟩
  · rw [decide_eq_false hi, Bool.false_and]
    exact decide_eq_false (fun z => hi z.1)
theorem low_after {a n : Nat} (hn : n < 5) (hu : τ 0 n ≠ 0) (ha : τ 1 n = a) : 0 < y_lv τ a 5 0 ∧ y_low τ a = x_after (y_all τ a) 4 := by
  have hin : y_inA τ a n = true := decide_eq_true ⟨hu, ha⟩
  have b : ∀ k, k < 5 → (y_all τ a).testBit k = y_inA τ a k := fun k hk => by rw [y_all_bit, decide_eq_true hk, Bool.true_and]
  unfold y_low x_after
  simp only [x_af, y_lv, Nat.reduceAdd, Nat.reduceMod, b 0 (by decide), b 1 (by decide), b 2 (by decide), b 3 (by decide)]
  cases h0 : y_inA τ a 0 with
  | true => simp
  | false =>
    cases h1 : y_inA τ a 1 with
    | true => simp
    | false =>
      cases h2 : y_inA τ a 2 with
      | true => simp
      | false =>
        cases h3 : y_inA τ a 3 with
        | true => simp
        | false =>
          have h4 : y_inA τ a 4 = true := by
            match n, hn with
            | 0, _ => rw [h0] at hin; exact absurd hin (by decide)
            | 1, _ => rw [h1] at hin; exact absurd hin (by decide)
            | 2, _ => rw [h2] at hin; exact absurd hin (by decide)
            | 3, _ => rw [h3] at hin; exact absurd hin (by decide)
            | 4, _ => exact hin
          simp [h4]
end FORM1
