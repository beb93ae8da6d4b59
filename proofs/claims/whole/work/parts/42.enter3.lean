/-! 42.enter3: the nodes of a form enter the newest ring, one behind the other -/
section ENTER3
variable {c u : Nat} {σ τ : Nat → Nat → Nat}
theorem x_untok_fn {n f : Nat} (h : f ≠ 12) : x_untok σ n f = σ f := by
  cases hr : σ 1 n with
  | zero => simp only [x_untok, hr]
  | succ r =>
    simp only [x_untok, hr]
    by_cases hz : σ 12 r = n + 1
    · rw [if_pos hz]
      exact sU_fn h
    · rw [if_neg hz]
theorem x_untok_ne {n r f j : Nat} (hr : σ 1 n = r + 1) (h : j ≠ r) : x_untok σ n f j = σ f j := by
  simp only [x_untok, hr]
  split
  · exact sU_nei h
  · rfl
theorem y_untok_fn {n f : Nat} (h : f ≠ 17) : y_untok τ n f = τ f := sU_fn h
theorem New.untok (h : New c σ τ u) {n : Nat} (hn : n < 5) (h0 : σ 1 n ≠ 0) (hne : σ 1 n ≠ u + 1) : New c (x_untok σ n) (y_untok τ n) u := by
  obtain ⟨hS, hR, h18, hU⟩ := h
  have hg : τ 16 0 ≠ τ 2 n := fun z => hne (hU n hn h0 z.symm)
  obtain ⟨r, hr⟩ : ∃ r, σ 1 n = r + 1 := ⟨σ 1 n - 1, by omega⟩
  have hru : u ≠ r := fun z => hne (by rw [hr, z])
  refine ⟨hS.untok hn h0, ?_, ?_, ?_⟩
  · rw [y_untok_fn (f := 16) (by decide)]
    exact Rg_keep (by rw [x_untok_fn (by decide)]) (by rw [x_untok_fn (by decide)]) (x_untok_ne hr hru) (by rw [x_untok_fn (by decide)]) (by rw [x_untok_fn (by decide)]) (x_untok_fn (by omega)) (x_untok_fn (by omega)) (y_untok_fn (by decide)) (y_untok_fn (by decide)) (y_untok_fn (by decide)) (sU_nei hg) (by rw [y_untok_fn (by decide)]) (by rw [y_untok_fn (by decide)]) (fun k _ => by rw [y_untok_fn (by decide)]) (by rw [y_untok_fn (by decide)]) hR
  · rw [y_untok_fn (f := 16) (by decide), y_untok_fn (f := 18) (by decide)]
    exact h18
  · rw [x_untok_fn (by decide), y_untok_fn (f := 16) (by decide), y_untok_fn (f := 2) (by decide)]
    exact hU
theorem New.step (h : New c σ τ u) (hu : u < 6) {n : Nat} (hn : n < 5) (h0 : σ 1 n ≠ 0) (hne : σ 1 n ≠ u + 1) : New c (x_enter σ n u) (y_ent1 τ n) u ∧ y_ent1 τ n 16 0 = τ 16 0 ∧ ∀ k, k ≠ n → x_enter σ n u 1 k = σ 1 k := by
  have h1 := (h.untok hn h0 hne).enter hu hn
  have e0 : τ 0 n = 1 := by
    have a : τ 0 n < 2 := h.1.1.2.1 0 n
    have b : τ 0 n ≠ 0 := fun z => h0 ((h.1.2.2.2.1 n hn).1.1.mpr z)
    omega
  have e1 : sU (y_untok τ n) 0 n 1 = y_untok τ n := by
    have := sU_self (σ := y_untok τ n) (f := 0) (i := n)
    rw [y_untok_fn (f := 0) (by decide), e0] at this
    exact this
  have e2 : t_in (y_untok τ n) n (y_untok τ n 16 0) = y_ent1 τ n := by
    unfold t_in y_ent1
    rw [e1, y_untok_fn (f := 16) (by decide)]
  rw [e2] at h1
  refine ⟨h1, ?_, fun k hk => ?_⟩
  · rw [← e2, t_in_fn (by decide), y_untok_fn (by decide)]
  · show s_in (x_untok σ n) n u 1 k = _
    rw [s_in_ne hk, x_untok_fn (by decide)]
theorem New.loop (h : New c σ τ u) (hu : u < 6) {mem : Nat} (hm : ∀ n, n < 5 → mem.testBit n = true → σ 1 n ≠ 0 ∧ σ 1 n ≠ u + 1) : ∀ k, k ≤ 5 → New c (x_ent mem u σ k) (y_en mem τ k) u ∧ y_en mem τ k 16 0 = τ 16 0 ∧ ∀ j, k ≤ j → x_ent mem u σ k 1 j = σ 1 j
  | 0, _ => ⟨h, rfl, fun _ _ => rfl⟩
  | k + 1, hk => by
    obtain ⟨i1, i2, i3⟩ := h.loop hu hm k (by omega)
    rw [x_ent_s, y_en_s]
    by_cases hb : mem.testBit k = true
    · rw [if_pos hb, if_pos hb]
      have hk' := hm k (by omega) hb
      have e := i3 k (Nat.le_refl _)
      obtain ⟨j1, j2, j3⟩ := i1.step hu (n := k) (by omega) (by rw [e]; exact hk'.1) (by rw [e]; exact hk'.2)
      refine ⟨j1, j2.trans i2, fun j hj => ?_⟩
      rw [j3 j (by omega), i3 j (by omega)]
    · rw [if_neg hb, if_neg hb]
      exact ⟨i1, i2, fun j hj => i3 j (by omega)⟩
end ENTER3
