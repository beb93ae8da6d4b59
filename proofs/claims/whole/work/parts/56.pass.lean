/-! 56.pass: the token is passed on, and the relation kept -/
section PASS
variable {c : Nat} {σ τ : Nat → Nat → Nat}
set_option maxRecDepth 20000 in
theorem after_next_all : ∀ mem, mem < 32 → ∀ n, n < 5 → x_after mem n = y_next mem n ∧ x_after mem n < 5 := by decide +kernel
theorem Sim.pass (h : Sim c σ τ) {n r : Nat} (hn : n < 5) (hr : σ 1 n = r + 1) : Sim c (x_pass σ n r) (y_pass τ n (τ 2 n)) := by
  have e11 : σ 11 r = τ 19 (τ 2 n) := ((h.2.2.2.1 n hn).2.2.1 r hr).2.2.2.2.1
  obtain ⟨a1, a2⟩ := after_next_all (τ 19 (τ 2 n)) (h.1.2.1 19 _) n hn
  have hh := h.hear hn a2
  have ev : (if x_hear σ n (x_after (σ 11 r) n) = true then x_after (σ 11 r) n + 1 else 0) = (if y_next (τ 19 (τ 2 n)) n = n ∨ y_hear τ (y_next (τ 19 (τ 2 n)) n) n = true then y_next (τ 19 (τ 2 n)) n + 1 else 0) := by
    rw [e11, hh, a1]
    by_cases z : y_hear τ (y_next (τ 19 (τ 2 n)) n) n = true
    · rw [if_pos z, if_pos (Or.inr z)]
    · rw [if_neg z]
      by_cases y : y_next (τ 19 (τ 2 n)) n = n
      · refine absurd ?_ z
        rw [y]
        have u : τ 0 n ≠ 0 := fun q => by have := (h.2.2.2.1 n hn).1.1.mpr q; omega
        exact decide_eq_true ⟨u, u, rfl, rfl⟩
      · rw [if_neg (fun q => q.elim y z)]
  unfold x_pass y_pass
  rw [ev]
  refine h.token hn hr ?_
  rw [← a1]
  split <;> omega
end PASS
