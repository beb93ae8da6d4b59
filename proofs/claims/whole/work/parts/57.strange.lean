/-! 57.strange: both see the same strangers -/
section STRANGE
variable {c : Nat} {σ τ : Nat → Nat → Nat}
theorem Sim.stranger (h : Sim c σ τ) {n i : Nat} (hn : n < 5) (hi : i < 5) (hu : σ 1 n ≠ 0) (j : Nat) : x_st σ n (j + 1) i = (y_strc τ n i || x_st σ n j (i + 1)) := by
  have hN := h.2.2.2.1 n hn
  have hI := h.2.2.2.1 i hi
  obtain ⟨r, hr⟩ : ∃ r, σ 1 n = r + 1 := ⟨σ 1 n - 1, by omega⟩
  have hin := h.inring hn hi hr
  rw [x_st]
  by_cases z : σ 1 i ≠ 0 ∧ σ 5 i = σ 5 n ∧ σ 1 i ≠ σ 1 n
  · have u : τ 0 i ≠ 0 := fun y => z.1 (hI.1.1.mpr y)
    have e : y_strc τ n i = true := decide_eq_true ⟨u, by rw [← hI.1.2.1, ← hN.1.2.1]; exact z.2.1, fun y => z.2.2 (by rw [hr]; exact hin.mpr ⟨u, y⟩)⟩
    rw [if_pos z, e, Bool.true_or]
  · have e : y_strc τ n i = false := decide_eq_false (fun y => z ⟨fun q => y.1 (hI.1.1.mp q), by rw [hI.1.2.1, hN.1.2.1]; exact y.2.1, fun q => y.2.2 (hin.mp (q.trans hr)).2⟩)
    rw [if_neg z, e, Bool.false_or]
theorem Sim.strangers (h : Sim c σ τ) {n : Nat} (hn : n < 5) (hu : σ 1 n ≠ 0) : x_st σ n 5 0 = y_str τ n 5 := by
  rw [h.stranger hn (by decide) hu, h.stranger hn (by decide) hu, h.stranger hn (by decide) hu, h.stranger hn (by decide) hu, h.stranger hn (by decide) hu]
  show _ = (((((false || y_strc τ n 0) || y_strc τ n 1) || y_strc τ n 2) || y_strc τ n 3) || y_strc τ n 4)
  rw [show x_st σ n 0 (0 + 1 + 1 + 1 + 1 + 1) = false from rfl, Bool.or_false, Bool.false_or, Bool.or_assoc, Bool.or_assoc, Bool.or_assoc]
end STRANGE
