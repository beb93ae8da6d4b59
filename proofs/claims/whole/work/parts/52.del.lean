/-! 52.del: one delivery keeps the relation -/
section DEL
variable {c : Nat} {σ τ : Nat → Nat → Nat}
theorem Sim.dl (h : Sim c σ τ) {n r : Nat} (hn : n < 5) (hr : σ 1 n = r + 1) : x_dl σ n r (σ 7 n + 1) = y_dl τ n ∧ (y_dl τ n = true → σ (40 + r) (σ 7 n + 1) = y_dm τ n ∧ 1 ≤ y_dm τ n ∧ y_dm τ n ≤ τ 10 0 ∧ τ 15 (y_dm τ n) = τ 4 n + 1 ∧ τ 14 (y_dm τ n) = τ 2 n) := by
  obtain ⟨h6, h7, _, hR⟩ := (h.2.2.2.1 n hn).2.2.1 r hr
  have hb := (h.2.2.2.1 n hn).2.2.2.1 (by omega) (σ 7 n + 1)
  rw [decide_eq_true (show 1 ≤ σ 7 n + 1 by omega), Bool.true_and] at hb
  have key : 0 < y_dm τ n → σ (40 + r) (σ 7 n + 1) = y_dm τ n ∧ 1 ≤ y_dm τ n ∧ y_dm τ n ≤ τ 10 0 ∧ τ 15 (y_dm τ n) = τ 4 n + 1 ∧ τ 14 (y_dm τ n) = τ 2 n := fun z => by
    have sp := y_msg_spec (τ := τ) (r := τ 2 n) (q := τ 4 n + 1) z
    refine ⟨?_, sp⟩
    have a := (h.2.1.1 _ sp.1 sp.2.1 (by rw [sp.2.2.1]; omega)).2.2
    rw [sp.2.2.1, sp.2.2.2] at a
    rw [h7]
    exact hR.2.2.2.2.2.2 (τ 4 n + 1) (by omega) (by rw [hR.2.2.2.1]; exact a)
  refine ⟨?_, fun z => key (of_decide_eq_true z).1⟩
  unfold x_dl
  rw [hb, h6]
  by_cases hz : 0 < y_dm τ n ∧ τ 7 (49 * n + y_dm τ n) ≠ 0
  · have e1 : y_has τ n (σ 7 n + 1) = true := by
      unfold y_has
      rw [h7]
      exact decide_eq_true hz
    obtain ⟨k1, k2, k3, _⟩ := key hz.1
    rw [e1, Bool.true_and, k1, (h.2.2.2.2.2.2.2.1 _ k2 k3).2.1, h7]
    unfold y_dl
    by_cases a : τ 12 (y_dm τ n) = 0
    · rw [decide_eq_true a, Bool.or_true, decide_eq_true ⟨hz.1, hz.2, Or.inl a⟩]
    · rw [decide_eq_false a, Bool.or_false]
      exact decide_eq_decide.mpr ⟨fun z => ⟨hz.1, hz.2, Or.inr z⟩, fun z => z.2.2.resolve_left a⟩
  · have e1 : y_has τ n (σ 7 n + 1) = false := by
      unfold y_has
      rw [h7]
      exact decide_eq_false hz
    rw [e1, Bool.false_and]
    exact (decide_eq_false (fun z => hz ⟨z.1, z.2.1⟩)).symm
/-- the room in the log -/
theorem Sim.logroom (h : Sim c σ τ) {n m q : Nat} (h1 : 1 ≤ m) (h2 : m ≤ τ 10 0) (h15 : τ 15 m = q + 1) (h14 : τ 14 m = τ 2 n) (h9 : τ 9 n ≤ cntB τ (τ 2 n) q) : τ 9 n + 1 ≤ cntB τ (τ 2 n) (q + 1) ∧ τ 9 n < 48 ∧ q < 48 := by
  have b10 : τ 10 0 < 49 := h.1.2.1 10 0
  have b15 : τ 15 m < 49 := h.1.2.1 15 m
  have lt : cntB τ (τ 2 n) q < cntB τ (τ 2 n) (q + 1) := by
    unfold cntB
    refine cn_lt h1 (decide_eq_false (fun z => by have := z.2; omega)) (decide_eq_true ⟨by omega, Or.inr ⟨h14, by omega⟩⟩) (τ 10 0) h2 (fun j _ _ hd => ?_)
    have hd := of_decide_eq_true hd
    refine decide_eq_true ⟨hd.1, ?_⟩
    have := hd.2
    omega
  have le : cntB τ (τ 2 n) (q + 1) ≤ τ 10 0 := cn_le _
  omega
end DEL
