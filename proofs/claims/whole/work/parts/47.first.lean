/-! 47.first: the first of a queue is the first that waits; a number is free -/
section FIRSTW
variable {c : Nat} {σ τ : Nat → Nat → Nat}
theorem fnd_at {p : Nat → Bool} : ∀ (k m w : Nat), m ≤ w → w < m + k → p w = true → (∀ j, m ≤ j → j < w → p j = false) → fnd p k m = w
  | 0, m, w, h1, h2, _, _ => by omega
  | k + 1, m, w, h1, h2, h3, h4 => by
    unfold fnd
    by_cases e : m = w
    · subst e
      rw [if_pos h3]
    · rw [if_neg (by rw [h4 m (Nat.le_refl _) (by omega)]; decide)]
      exact fnd_at k (m + 1) w (by omega) (by omega) h3 (fun j a b => h4 j (by omega) b)
theorem fnd_none {p : Nat → Bool} : ∀ (k m : Nat), (∀ j, m ≤ j → j < m + k → p j = false) → fnd p k m = 0
  | 0, _, _ => rfl
  | k + 1, m, h => by
    unfold fnd
    rw [if_neg (by rw [h m (Nat.le_refl _) (by omega)]; decide)]
    exact fnd_none k (m + 1) (fun j a b => h j (by omega) (by omega))
theorem fnd_congr {p q : Nat → Bool} : ∀ (k m : Nat), (∀ j, m ≤ j → j < m + k → p j = q j) → fnd p k m = fnd q k m
  | 0, _, _ => rfl
  | k + 1, m, h => by
    unfold fnd
    rw [h m (Nat.le_refl _) (by omega), fnd_congr k (m + 1) (fun j a b => h j (by omega) (by omega))]
theorem y_qd_0 {n : Nat} : ∀ k, y_qd τ n k = 0 → ∀ j, 1 ≤ j → j ≤ k → y_wait τ n j = false
  | 0, _, j, h1, h2 => by omega
  | k + 1, h, j, h1, h2 => by
    rw [y_qd_s] at h
    by_cases e : j = k + 1
    · subst e
      cases hw : y_wait τ n (k + 1) with
      | false => rfl
      | true =>
        rw [hw] at h
        have : b2 true = 1 := rfl
        omega
    · exact y_qd_0 k (by omega) j h1 (by omega)
/-- the queue's head -/
theorem Sim.head (h : Sim c σ τ) {n : Nat} (hn : n < 5) (h0 : 0 < σ 3 n) : σ (20 + n) 0 = y_first τ n := by
  obtain ⟨a1, a2, a3, a4⟩ := (h.2.2.2.2.1 n hn).2 0 h0
  refine (fnd_at _ _ _ a1 (by omega) a3 (fun j b1 b2' => ?_)).symm
  obtain ⟨w, hw⟩ : ∃ w, σ (20 + n) 0 = w + 1 := ⟨σ (20 + n) 0 - 1, by omega⟩
  rw [hw] at a3 a4 b2'
  rw [y_qd_s, a3] at a4
  have : b2 true = 1 := rfl
  exact y_qd_0 w (by omega) j b1 (by omega)
/-- nothing waits in an empty queue -/
theorem Sim.empty (h : Sim c σ τ) {n : Nat} (hn : n < 5) (h0 : σ 3 n = 0) : y_first τ n = 0 := by
  have e := (h.2.2.2.2.1 n hn).1
  exact fnd_none _ _ (fun j b1 b2' => y_qd_0 (τ 10 0) (by omega) j b1 (by omega))
theorem cn_all : ∀ k, cn (fun _ => true) k = k
  | 0 => rfl
  | k + 1 => by rw [cn_s, cn_all k]; rfl
/-- while one waits, a number is free -/
theorem Sim.room (h : Sim c σ τ) {m g : Nat} (h1 : 1 ≤ m) (h2 : m ≤ τ 10 0) (h3 : τ 15 m = 0) : τ 18 g < 48 := by
  have b10 : τ 10 0 < 49 := h.1.2.1 10 0
  have e1 := h.2.1.2.2.2.2.2.2 g
  have e2 := cn_lt (p := fun m => decide (τ 15 m ≠ 0)) (q := fun _ => true) h1 (decide_eq_false (fun z => z h3)) rfl (τ 10 0) h2 (fun _ _ _ _ => rfl)
  rw [cn_all] at e2
  unfold cntN at e1
  omega
end FIRSTW
