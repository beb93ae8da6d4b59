/-! 48.number: what a new number changes in the reference -/
section NUMBER
variable {c : Nat} {σ τ : Nat → Nat → Nat}
theorem nw0_fn {n g f : Nat} (h : f ≠ 14 ∧ f ≠ 15 ∧ f ≠ 18) : y_nw0 n g τ f = τ f := by
  unfold y_nw0
  rw [sU_fn h.1, sU_fn h.2.1, sU_fn h.2.2]
theorem nw0_18 {n g j : Nat} : y_nw0 n g τ 18 j = if j = g then τ 18 g + 1 else τ 18 j := by
  unfold y_nw0
  rw [sU_nef (by decide), sU_nef (by decide)]
  by_cases e : j = g
  · subst e
    rw [sU_same, if_pos rfl]
  · rw [sU_nei e, if_neg e]
theorem nw0_15 {n g m : Nat} : y_nw0 n g τ 15 m = if m = y_first τ n then τ 18 g + 1 else τ 15 m := by
  unfold y_nw0
  rw [sU_nef (by decide)]
  by_cases e : m = y_first τ n
  · rw [e, sU_same, if_pos rfl]
  · rw [sU_nei e, if_neg e, sU_nef (by decide)]
theorem nw0_14 {n g m : Nat} : y_nw0 n g τ 14 m = if m = y_first τ n then g else τ 14 m := by
  unfold y_nw0
  by_cases e : m = y_first τ n
  · rw [e, sU_same, if_pos rfl]
  · rw [sU_nei e, if_neg e, sU_nef (by decide), sU_nef (by decide)]
theorem y_first_spec {n : Nat} (h : 0 < y_first τ n) : 1 ≤ y_first τ n ∧ y_first τ n ≤ τ 10 0 ∧ y_wait τ n (y_first τ n) = true := by
  unfold y_first at *
  rcases fnd_spec (fun m => y_wait τ n m) (τ 10 0) 1 with z | z
  · omega
  · exact ⟨z.1, by omega, z.2.2⟩
theorem nw0_msg_new (hM : InvM τ) {n g : Nat} (h : 0 < y_first τ n) : y_msg (y_nw0 n g τ) g (τ 18 g + 1) = y_first τ n := by
  obtain ⟨f1, f2, _⟩ := y_first_spec h
  unfold y_msg
  rw [nw0_fn (f := 10) (by decide)]
  refine fnd_at _ _ _ f1 (by omega) (decide_eq_true ⟨by rw [nw0_15, if_pos rfl], by rw [nw0_14, if_pos rfl]⟩) (fun j a1 a2 => decide_eq_false (fun z => ?_))
  rw [nw0_15, nw0_14, if_neg (by omega), if_neg (by omega)] at z
  have := (hM.1 j a1 (by omega) (by omega)).2.2
  rw [z.2] at this
  omega
theorem nw0_msg_old (hM : InvM τ) {n g g' q : Nat} (h : 0 < y_first τ n) (hq : 1 ≤ q) (hne : ¬ (g' = g ∧ q = τ 18 g + 1)) : y_msg (y_nw0 n g τ) g' q = y_msg τ g' q := by
  obtain ⟨f1, f2, f3⟩ := y_first_spec h
  have f3 := of_decide_eq_true f3
  unfold y_msg
  rw [nw0_fn (f := 10) (by decide)]
  refine fnd_congr _ _ (fun j a1 a2 => ?_)
  rw [nw0_15, nw0_14]
  by_cases e : j = y_first τ n
  · rw [if_pos e, if_pos e]
    refine decide_eq_decide.mpr ⟨fun z => absurd ⟨z.2.symm, z.1.symm⟩ hne, fun z => ?_⟩
    rw [e] at z
    have := f3.2.1
    omega
  · rw [if_neg e, if_neg e]
theorem nw0_msg_none (hM : InvM τ) {g : Nat} : y_msg τ g (τ 18 g + 1) = 0 := by
  unfold y_msg
  refine fnd_none _ _ (fun j a1 a2 => decide_eq_false (fun z => ?_))
  have := (hM.1 j a1 (by omega) (by omega)).2.2
  rw [z.2] at this
  omega
theorem nw0_wait {n g k m : Nat} (hne : m ≠ y_first τ n) : y_wait (y_nw0 n g τ) k m = y_wait τ k m := by
  unfold y_wait
  rw [nw0_fn (f := 11) (by decide), nw0_fn (f := 13) (by decide), nw0_15, if_neg hne]
theorem nw0_wait_f {n g k : Nat} : y_wait (y_nw0 n g τ) k (y_first τ n) = false := by
  unfold y_wait
  rw [nw0_15, if_pos rfl]
  exact decide_eq_false (fun z => by have := z.2.1; omega)
theorem nw0_qd_o {n g k : Nat} (h : 0 < y_first τ n) (hk : k ≠ n) : ∀ j, y_qd (y_nw0 n g τ) k j = y_qd τ k j
  | 0 => rfl
  | j + 1 => by
    rw [y_qd_s, y_qd_s, nw0_qd_o h hk j]
    by_cases e : j + 1 = y_first τ n
    · have f3 := of_decide_eq_true (y_first_spec h).2.2
      have : y_wait τ k (y_first τ n) = false := decide_eq_false (fun z => hk (z.1.symm.trans f3.1))
      rw [e, nw0_wait_f, this]
    · rw [nw0_wait e]
theorem nw0_qd_n {n g : Nat} (h : 0 < y_first τ n) : ∀ j, y_qd τ n j = y_qd (y_nw0 n g τ) n j + (if y_first τ n ≤ j then 1 else 0)
  | 0 => by
    rw [if_neg (by omega)]
    rfl
  | j + 1 => by
    rw [y_qd_s, y_qd_s, nw0_qd_n (g := g) h j]
    by_cases e : j + 1 = y_first τ n
    · rw [e, nw0_wait_f, (y_first_spec h).2.2, if_neg (by omega), if_pos (by omega)]
      rfl
    · rw [nw0_wait e]
      by_cases hj : y_first τ n ≤ j
      · rw [if_pos hj, if_pos (by omega)]
        omega
      · rw [if_neg hj, if_neg (by omega)]
        omega
theorem shift_at {n i : Nat} : ∀ k, x_shift n σ k (20 + n) i = if i < k then σ (20 + n) (i + 1) else σ (20 + n) i
  | 0 => by rw [if_neg (by omega)]; rfl
  | k + 1 => by
    show sU (x_shift n σ k) (20 + n) k (x_shift n σ k (20 + n) (k + 1)) (20 + n) i = _
    by_cases e : i = k
    · subst e
      rw [sU_same, shift_at (i := i + 1) i, if_neg (by omega), if_pos (by omega)]
    · rw [sU_nei e, shift_at k]
      by_cases h : i < k
      · rw [if_pos h, if_pos (by omega)]
      · rw [if_neg h, if_neg (by omega)]
end NUMBER
