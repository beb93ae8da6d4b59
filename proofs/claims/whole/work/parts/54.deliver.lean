/-! 54.deliver: a node's deliveries keep the relation -/
section DELIVER
variable {c : Nat}
theorem Sim.del {n r : Nat} (hn : n < 5) : ∀ (j i : Nat) {σ τ : Nat → Nat → Nat}, Sim c σ τ → σ 1 n = r + 1 → 48 ≤ τ 4 n + j → j ≤ i → Sim c (x_del n r j σ) (y_del n i τ) ∧ y_delOK n i τ ∧ (∀ f, f ≠ 30 + n ∧ f ≠ 4 ∧ f ≠ 7 → x_del n r j σ f = σ f) ∧ ∀ f, f ≠ 8 ∧ f ≠ 9 ∧ f ≠ 4 → y_del n i τ f = τ f
  | 0, i, σ, τ, h, hr, hj, _ => by
    have hd : ¬ y_dl τ n = true := fun z => by
      obtain ⟨_, k2, k3, k4, k5⟩ := (h.dl hn hr).2 z
      have := (h.logroom k2 k3 k4 k5 (h.2.2.1 n hn).2.2).2.2
      omega
    cases i with
    | zero => exact ⟨h, trivial, fun _ _ => rfl, fun _ _ => rfl⟩
    | succ i =>
      unfold y_del y_delOK
      rw [if_neg hd, if_neg hd]
      exact ⟨h, trivial, fun _ _ => rfl, fun _ _ => rfl⟩
  | j + 1, 0, σ, τ, _, _, _, hi => by omega
  | j + 1, i + 1, σ, τ, h, hr, hj, hi => by
    have hdl := h.dl hn hr
    unfold x_del y_del y_delOK
    rw [hdl.1]
    by_cases hd : y_dl τ n = true
    · rw [if_pos hd, if_pos hd, if_pos hd]
      obtain ⟨k1, k2, k3, k4, k5⟩ := hdl.2 hd
      obtain ⟨l1, l2, l3⟩ := h.logroom k2 k3 k4 k5 (h.2.2.1 n hn).2.2
      have b10 : τ 10 0 < 49 := h.1.2.1 10 0
      have e7 : σ 7 n = τ 4 n := ((h.2.2.2.1 n hn).2.2.1 r hr).2.1
      have e4 : σ 4 n = τ 9 n := (h.2.2.2.1 n hn).2.1.1
      have ex : sU (x_app σ n (2 * σ (40 + r) (σ 7 n + 1))) 7 n (σ 7 n + 1) = s_d σ n (2 * y_dm τ n) (τ 4 n + 1) := by
        unfold x_app
        rw [k1, if_pos (by omega), e7]
        rfl
      have hs := h.log hn (e := 2 * y_dm τ n) (p := τ 4 n + 1) (by omega) (by omega) l2 l1
      have ey : y_d1 τ n = t_d τ n (2 * y_dm τ n) (τ 4 n + 1) := rfl
      have e44 : t_d τ n (2 * y_dm τ n) (τ 4 n + 1) 4 n = τ 4 n + 1 := sU_same
      obtain ⟨i1, i2, i3, i4⟩ := Sim.del hn j i hs (by rw [s_d_fn (by omega)]; exact hr) (by rw [e44]; omega) (by omega)
      rw [ex, ey]
      exact ⟨i1, ⟨l2, l3, i2⟩, fun f hf => (i3 f hf).trans (s_d_fn hf), fun f hf => (i4 f hf).trans (t_d_fn hf)⟩
    · rw [if_neg hd, if_neg hd, if_neg hd]
      exact ⟨h, trivial, fun _ _ => rfl, fun _ _ => rfl⟩
end DELIVER
