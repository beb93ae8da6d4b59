/-! 53.log: an entry in a log, with the place that it brings -/
section LOG
variable {c : Nat} {σ τ : Nat → Nat → Nat}
def s_d (σ : Nat → Nat → Nat) (n e p : Nat) : Nat → Nat → Nat := sU (sU (sU σ (30 + n) (σ 4 n) e) 4 n (σ 4 n + 1)) 7 n p
def t_d (τ : Nat → Nat → Nat) (n e p : Nat) : Nat → Nat → Nat := sU (sU (sU τ 8 (48 * n + τ 9 n) e) 9 n (τ 9 n + 1)) 4 n p
theorem s_d_fn {n e p f : Nat} (h : f ≠ 30 + n ∧ f ≠ 4 ∧ f ≠ 7) : s_d σ n e p f = σ f := by
  unfold s_d
  rw [sU_fn h.2.2, sU_fn h.2.1, sU_fn h.1]
theorem t_d_fn {n e p f : Nat} (h : f ≠ 8 ∧ f ≠ 9 ∧ f ≠ 4) : t_d τ n e p f = τ f := by
  unfold t_d
  rw [sU_fn h.2.2, sU_fn h.2.1, sU_fn h.1]
theorem Sim.log (h : Sim c σ τ) {n e p : Nat} (hn : n < 5) (he : e < 98) (hp : p < 49) (h48 : τ 9 n < 48) (h9 : τ 9 n + 1 ≤ cntB τ (τ 2 n) p) : Sim c (s_d σ n e p) (t_d τ n e p) := by
  obtain ⟨⟨hbX, hbY, h16, h16'⟩, hM, hIN, hRN, hRQ, hRM⟩ := h
  have t_ : ∀ f, f ≠ 8 ∧ f ≠ 9 ∧ f ≠ 4 → t_d τ n e p f = τ f := fun f hf => t_d_fn hf
  have e10 := t_ 10 (by decide)
  have e14 := t_ 14 (by decide)
  have e15 := t_ 15 (by decide)
  have e4 : σ 4 n = τ 9 n := (hRN n hn).2.1.1
  have y9 : ∀ k, t_d τ n e p 9 k = if k = n then τ 9 n + 1 else τ 9 k := fun k => by
    unfold t_d
    rw [sU_nef (by decide)]
    by_cases ek : k = n
    · rw [ek, sU_same, if_pos rfl]
    · rw [sU_nei ek, if_neg ek, sU_nef (by decide)]
  have y4 : ∀ k, t_d τ n e p 4 k = if k = n then p else τ 4 k := fun k => by
    unfold t_d
    by_cases ek : k = n
    · rw [ek, sU_same, if_pos rfl]
    · rw [sU_nei ek, if_neg ek, sU_nef (by decide), sU_nef (by decide)]
  have x4 : ∀ k, s_d σ n e p 4 k = if k = n then σ 4 n + 1 else σ 4 k := fun k => by
    unfold s_d
    rw [sU_nef (by decide)]
    by_cases ek : k = n
    · rw [ek, sU_same, if_pos rfl]
    · rw [sU_nei ek, if_neg ek, sU_nef (by omega)]
  have x7 : ∀ k, s_d σ n e p 7 k = if k = n then p else σ 7 k := fun k => by
    unfold s_d
    by_cases ek : k = n
    · rw [ek, sU_same, if_pos rfl]
    · rw [sU_nei ek, if_neg ek, sU_nef (by decide), sU_nef (by omega)]
  refine ⟨⟨?_, ?_, by rw [t_ 16 (by decide)]; exact h16, by rw [t_ 16 (by decide)]; exact h16'⟩, InvM_keep e10 (t_ _ (by decide)) e14 e15 (t_ _ (by decide)) (t_ _ (by decide)) (t_ _ (by decide)) (t_ _ (by decide)) hM, ?_, ?_, RelQ_keep (s_d_fn (by omega)) (fun k hk => s_d_fn (by omega)) e10 (t_ _ (by decide)) (t_ _ (by decide)) e15 hRQ, RelM_keep (s_d_fn (by omega)) (s_d_fn (by omega)) (s_d_fn (by omega)) (s_d_fn (by omega)) (s_d_fn (by omega)) e10 (t_ _ (by decide)) (t_ _ (by decide)) e14 e15 (t_ _ (by decide)) hRM⟩
  · exact bX_sU (bX_sU (bX_sU hbX (by rw [Bx_e hn]; exact he)) (show _ < 49 by omega)) hp
  · exact bY_sU (bY_sU (bY_sU hbY he) (show _ < 49 by omega)) hp
  · intro k hk
    obtain ⟨a, b, d⟩ := hIN k hk
    unfold cntB
    rw [t_ 0 (by decide), t_ 2 (by decide), t_ 6 (by decide), t_ 7 (by decide), t_ 16 (by decide), e10, e14, e15, y9, y4]
    refine ⟨a, b, ?_⟩
    by_cases ek : k = n
    · subst ek
      rw [if_pos rfl, if_pos rfl]
      exact h9
    · rw [if_neg ek, if_neg ek]
      exact d
  · intro k hk
    obtain ⟨a, b, d, e', f⟩ := hRN k hk
    rw [s_d_fn (f := 1) (by omega), s_d_fn (f := 5) (by omega), s_d_fn (f := 8) (by omega), s_d_fn (f := 9) (by omega), s_d_fn (f := 6) (by omega), s_d_fn (f := 2) (by omega), x4, x7, t_ 0 (by decide), t_ 1 (by decide), t_ 5 (by decide), t_ 3 (by decide), t_ 6 (by decide), t_ 2 (by decide), y9, y4]
    refine ⟨a, ?_, fun r hr => ?_, fun hu q => ?_, f⟩
    · by_cases ek : k = n
      · subst ek
        rw [if_pos rfl, if_pos rfl]
        refine ⟨by omega, fun j hj => ?_⟩
        unfold s_d t_d
        rw [sU_nef (f := 7) (by omega), sU_nef (f := 4) (g := 30 + k) (by omega), sU_nef (f := 4) (g := 8) (by decide), sU_nef (f := 9) (g := 8) (by decide)]
        by_cases ej : j = σ 4 k
        · rw [ej, sU_same, e4, sU_same]
        · rw [sU_nei ej, sU_nei (by omega)]
          exact b.2 j (by omega)
      · rw [if_neg ek, if_neg ek]
        refine ⟨b.1, fun j hj => ?_⟩
        have b9 : τ 9 k < 49 := hbY 9 k
        rw [s_d_fn (by omega)]
        unfold t_d
        rw [sU_nef (f := 4) (by decide), sU_nef (f := 9) (by decide), sU_nei (by have := b.1; omega)]
        exact b.2 j hj
    · obtain ⟨d1, d2, d3, d4⟩ := d r hr
      refine ⟨d1, ?_, d3, Rg_keep (by rw [s_d_fn (by omega)]) (by rw [s_d_fn (by omega)]) (by rw [s_d_fn (by omega)]) (by rw [s_d_fn (by omega)]) (by rw [s_d_fn (by omega)]) (s_d_fn (by omega)) (s_d_fn (by omega)) e10 e14 e15 (by rw [t_ _ (by decide)]) (by rw [t_ _ (by decide)]) (by rw [t_ _ (by decide)]) (fun k _ => by rw [t_ _ (by decide)]) (by rw [t_ _ (by decide)]) d4⟩
      by_cases ek : k = n
      · rw [if_pos ek, if_pos ek]
      · rw [if_neg ek, if_neg ek]
        exact d2
    · rw [y_has_keep (t_ _ (by decide)) (t_ _ (by decide)) e10 e14 e15]
      exact e' hu q
end LOG
