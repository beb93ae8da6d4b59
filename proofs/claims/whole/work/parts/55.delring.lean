/-! 55.delring: the deliveries of a ring's nodes keep the relation -/
section DELRING
variable {c : Nat} {σ τ : Nat → Nat → Nat}
/-- who is in the ring of node n -/
theorem Sim.inring (h : Sim c σ τ) {n r k : Nat} (hn : n < 5) (hk : k < 5) (hr : σ 1 n = r + 1) : σ 1 k = r + 1 ↔ (τ 0 k ≠ 0 ∧ τ 2 k = τ 2 n) := by
  have hN := h.2.2.2.1 n hn
  have hK := h.2.2.2.1 k hk
  have g1 := (hN.2.2.1 r hr).2.2.2.1
  constructor
  · intro z
    exact ⟨fun y => by have := hK.1.1.mpr y; omega, (hK.2.2.1 r z).2.2.2.1.symm.trans g1⟩
  · intro z
    have u : σ 1 k ≠ 0 := fun y => z.1 (hK.1.1.mp y)
    rw [← hN.2.2.2.2 k hk (by omega) u z.2.symm]
    exact hr
theorem Sim.delR (h : Sim c σ τ) {n r : Nat} (hn : n < 5) (hr : σ 1 n = r + 1) : ∀ k, k ≤ 5 → Sim c (x_delR r σ k) (y_dR (τ 2 n) τ k) ∧ (∀ f, f < 30 → f ≠ 4 ∧ f ≠ 7 → x_delR r σ k f = σ f) ∧ ∀ f, f ≠ 8 ∧ f ≠ 9 ∧ f ≠ 4 → y_dR (τ 2 n) τ k f = τ f
  | 0, _ => ⟨h, fun _ _ _ => rfl, fun _ _ => rfl⟩
  | k + 1, hk => by
    obtain ⟨i1, i2, i3⟩ := h.delR hn hr k (by omega)
    have hr' : x_delR r σ k 1 n = r + 1 := by rw [i2 1 (by decide) (by decide)]; exact hr
    have e2 : y_dR (τ 2 n) τ k 2 n = τ 2 n := by rw [i3 2 (by decide)]
    have hin := i1.inring hn (k := k) (by omega) hr'
    rw [e2] at hin
    have ex : x_delR r σ (k + 1) = if x_delR r σ k 1 k = r + 1 then x_del k r (48 - x_delR r σ k 7 k) (x_delR r σ k) else x_delR r σ k := rfl
    have ey : y_dR (τ 2 n) τ (k + 1) = if y_dR (τ 2 n) τ k 0 k ≠ 0 ∧ y_dR (τ 2 n) τ k 2 k = τ 2 n then y_del k 48 (y_dR (τ 2 n) τ k) else y_dR (τ 2 n) τ k := rfl
    rw [ex, ey]
    by_cases hz : x_delR r σ k 1 k = r + 1
    · rw [if_pos hz, if_pos (hin.mp hz)]
      have e7 := ((i1.2.2.2.1 k (by omega)).2.2.1 r hz).2.1
      obtain ⟨j1, j2, j3, j4⟩ := Sim.del (r := r) (n := k) (by omega) (48 - x_delR r σ k 7 k) 48 i1 hz (by omega) (by omega)
      exact ⟨j1, fun f h1 h2 => (j3 f ⟨by omega, h2⟩).trans (i2 f h1 h2), fun f hf => (j4 f hf).trans (i3 f hf)⟩
    · rw [if_neg hz, if_neg (fun z => hz (hin.mpr z))]
      exact ⟨i1, i2, i3⟩
theorem Sim.dROK (h : Sim c σ τ) {n r : Nat} (hn : n < 5) (hr : σ 1 n = r + 1) : y_dROK (τ 2 n) τ := by
  intro k hk hz
  obtain ⟨i1, i2, i3⟩ := h.delR hn hr k (by omega)
  have hr' : x_delR r σ k 1 n = r + 1 := by rw [i2 1 (by decide) (by decide)]; exact hr
  have e2 : y_dR (τ 2 n) τ k 2 n = τ 2 n := by rw [i3 2 (by decide)]
  have hin := i1.inring hn hk hr'
  rw [e2] at hin
  have h1 := hin.mpr hz
  have e7 := ((i1.2.2.2.1 k hk).2.2.1 r h1).2.1
  exact (Sim.del (r := r) hk (48 - x_delR r σ k 7 k) 48 i1 h1 (by omega) (by omega)).2.1
end DELRING
