/-! 44.cast: who hears whom; a broadcast keeps the relation -/
section CAST
variable {c : Nat} {σ τ : Nat → Nat → Nat}
theorem Sim.lower {c' : Nat} (h : Sim c' σ τ) (h1 : τ 16 0 ≤ c + 1) : Sim c σ τ := ⟨⟨h.1.1, h.1.2.1, h.1.2.2.1, h1⟩, h.2⟩
theorem Sim.hear (h : Sim c σ τ) {n k : Nat} (hn : n < 5) (hk : k < 5) : x_hear σ n k = y_hear τ k n := by
  have hN := h.2.2.2.1 n hn
  have hK := h.2.2.2.1 k hk
  unfold x_hear y_hear
  refine decide_eq_decide.mpr ⟨fun z => ?_, fun z => ?_⟩
  · obtain ⟨z1, z2, z3⟩ := z
    obtain ⟨r, hr⟩ : ∃ r, σ 1 n = r + 1 := ⟨σ 1 n - 1, by omega⟩
    have g1 := (hN.2.2.1 r hr).2.2.2.1
    have g2 := (hK.2.2.1 r (z2.symm.trans hr)).2.2.2.1
    exact ⟨fun y => z1 (z2.trans (hK.1.1.mpr y)), fun y => z1 (hN.1.1.mpr y), by rw [← hK.1.2.1, ← hN.1.2.1, z3], g2.symm.trans g1⟩
  · obtain ⟨z1, z2, z3, z4⟩ := z
    have u1 : σ 1 n ≠ 0 := fun y => z2 (hN.1.1.mp y)
    have u2 : σ 1 k ≠ 0 := fun y => z1 (hK.1.1.mp y)
    exact ⟨u1, hN.2.2.2.2 k hk u1 u2 z4.symm, by rw [hN.1.2.1, hK.1.2.1, z3]⟩
theorem y_msg_spec {r q : Nat} (h : 0 < y_msg τ r q) : 1 ≤ y_msg τ r q ∧ y_msg τ r q ≤ τ 10 0 ∧ τ 15 (y_msg τ r q) = q ∧ τ 14 (y_msg τ r q) = r := by
  unfold y_msg at *
  rcases fnd_spec (fun m => decide (τ 15 m = q ∧ τ 14 m = r)) (τ 10 0) 1 with z | z
  · omega
  · have := of_decide_eq_true z.2.2
    exact ⟨z.1, by omega, this.1, this.2⟩
theorem Sim.hold (h : Sim c σ τ) {k q m : Nat} (hk : k < 5) (h1 : 1 ≤ q) (h2 : q < 49) (hm : m = y_msg τ (τ 2 k) q) (h0 : 0 < m) : Sim c (x_hold σ k q) (sU τ 7 (49 * k + m) 1) := by
  obtain ⟨⟨hbX, hbY, h16, h16'⟩, hM, hIN, hRN, hRQ, hRM⟩ := h
  have s_ : ∀ f, f ≠ 2 → x_hold σ k q f = σ f := fun f hf => sU_fn hf
  have t_ : ∀ f, f ≠ 7 → sU τ 7 (49 * k + m) 1 f = τ f := fun f hf => sU_fn hf
  have e2 := t_ 2 (by decide)
  have e10 := t_ 10 (by decide)
  have e14 := t_ 14 (by decide)
  have e15 := t_ 15 (by decide)
  have b10 : τ 10 0 < 49 := hbY 10 0
  have sp : 1 ≤ m ∧ m ≤ τ 10 0 ∧ τ 15 m = q ∧ τ 14 m = τ 2 k := by
    rw [hm]
    exact y_msg_spec (by rw [← hm]; exact h0)
  refine ⟨⟨bX_hold hbX h2, bY_sU hbY (by decide), by rw [t_ 16 (by decide)]; exact h16, by rw [t_ 16 (by decide)]; exact h16'⟩, InvM_keep e10 (t_ _ (by decide)) e14 e15 (t_ _ (by decide)) (t_ _ (by decide)) (t_ _ (by decide)) (t_ _ (by decide)) hM, ?_, ?_, RelQ_keep (s_ _ (by decide)) (fun n hn => s_ _ (by omega)) e10 (t_ _ (by decide)) (t_ _ (by decide)) e15 hRQ, RelM_keep (s_ _ (by decide)) (s_ _ (by decide)) (s_ _ (by decide)) (s_ _ (by decide)) (s_ _ (by decide)) e10 (t_ _ (by decide)) (t_ _ (by decide)) e14 e15 (t_ _ (by decide)) hRM⟩
  · intro j hj
    have := hIN j hj
    unfold cntB
    rw [e2, e10, e14, e15, t_ 0 (by decide), t_ 4 (by decide), t_ 6 (by decide), t_ 9 (by decide), t_ 16 (by decide)]
    refine ⟨this.1, fun z m' a1 a2 a3 => ?_, this.2.2⟩
    by_cases e : 49 * j + m' = 49 * k + m
    · have ej : j = k := by omega
      have em : m' = m := by omega
      rw [ej, em]
      exact ⟨sp.2.1, by omega, sp.2.2.2⟩
    · rw [sU_nei e] at a3
      exact this.2.1 z m' a1 a2 a3
  · intro j hj
    obtain ⟨a, b, d, e, f⟩ := hRN j hj
    rw [s_ 1 (by decide), s_ 5 (by decide), s_ 8 (by decide), s_ 9 (by decide), s_ 4 (by decide), s_ 6 (by decide), s_ 7 (by decide), s_ (30 + j) (by omega), t_ 0 (by decide), t_ 1 (by decide), t_ 5 (by decide), t_ 9 (by decide), t_ 8 (by decide), t_ 3 (by decide), t_ 4 (by decide), t_ 6 (by decide), e2]
    refine ⟨a, b, fun r hr => ?_, fun hu q' => ?_, f⟩
    · obtain ⟨d1, d2, d3, d4⟩ := d r hr
      exact ⟨d1, d2, d3, Rg_keep (by rw [s_ _ (by decide)]) (by rw [s_ _ (by decide)]) (by rw [s_ _ (by decide)]) (by rw [s_ _ (by decide)]) (by rw [s_ _ (by decide)]) (s_ _ (by omega)) (s_ _ (by omega)) e10 e14 e15 (by rw [t_ _ (by decide)]) (by rw [t_ _ (by decide)]) (by rw [t_ _ (by decide)]) (fun k _ => by rw [t_ _ (by decide)]) (by rw [t_ _ (by decide)]) d4⟩
    · have hlt := y_msg_lt (r := τ 2 j) (q := q') hbY
      by_cases hjq : j = k ∧ q' = q
      · obtain ⟨ej, eq⟩ := hjq
        subst ej
        subst eq
        unfold x_hold y_has
        rw [sU_same, Nat.testBit_or, Nat.testBit_two_pow, decide_eq_true rfl, Bool.or_true, e2, y_msg_keep e10 e14 e15, ← hm, sU_same, decide_eq_true h1, decide_eq_true ⟨h0, by decide⟩]
        rfl
      · have e1 : (x_hold σ k q 2 j).testBit q' = (σ 2 j).testBit q' := by
          unfold x_hold
          by_cases ej : j = k
          · subst ej
            rw [sU_same, Nat.testBit_or, Nat.testBit_two_pow, decide_eq_false (fun z => hjq ⟨rfl, z.symm⟩), Bool.or_false]
          · rw [sU_nei ej]
        rw [e1, e hu q']
        refine congrArg (fun x => decide (1 ≤ q') && x) ?_
        unfold y_has
        rw [e2, y_msg_keep e10 e14 e15]
        have ne : 0 < y_msg τ (τ 2 j) q' → 49 * j + y_msg τ (τ 2 j) q' ≠ 49 * k + m := fun p z => by
          have ej : j = k := by omega
          have em : y_msg τ (τ 2 j) q' = m := by omega
          have := (y_msg_spec p).2.2.1
          rw [em, sp.2.2.1] at this
          exact hjq ⟨ej, this.symm⟩
        refine decide_eq_decide.mpr ⟨fun z => ⟨z.1, ?_⟩, fun z => ⟨z.1, ?_⟩⟩
        · rw [sU_nei (ne z.1)]
          exact z.2
        · have := z.2
          rw [sU_nei (ne z.1)] at this
          exact this
theorem Sim.recv (h : Sim c σ τ) {k q m : Nat} (hk : k < 5) (h1 : 1 ≤ q) (h2 : q < 49) (hm : m = y_msg τ (τ 2 k) q) (h0 : 0 < m) : Sim c (x_recv σ k q) (y_recv τ k m) := by
  have e8 : σ 8 k = τ 5 k := (h.2.2.2.1 k hk).1.2.2.1
  unfold x_recv y_recv
  rw [e8]
  by_cases hz : 0 < τ 5 k
  · rw [if_pos hz, if_pos hz]
    have b : τ 5 k < 21 := h.1.2.1 5 k
    refine (h.deafen hk (by omega)).lower ?_
    rw [sU_nef (by decide)]
    exact h.1.2.2.2
  · rw [if_neg hz, if_neg hz]
    exact h.hold hk h1 h2 hm h0
theorem y_recv_fn {k m f : Nat} (h5 : f ≠ 5) (h7 : f ≠ 7) : y_recv τ k m f = τ f := by
  unfold y_recv
  split
  · exact sU_fn h5
  · exact sU_fn h7
theorem y_bc_fn {n m f : Nat} (h5 : f ≠ 5) (h7 : f ≠ 7) : ∀ k, y_bc n m τ k f = τ f
  | 0 => rfl
  | k + 1 => by
    rw [y_bc_s]
    split
    · rw [y_recv_fn h5 h7, y_bc_fn h5 h7 k]
    · exact y_bc_fn h5 h7 k
theorem Sim.bc (h : Sim c σ τ) {n q m : Nat} (hn : n < 5) (h1 : 1 ≤ q) (h2 : q < 49) (hm : m = y_msg τ (τ 2 n) q) (h0 : 0 < m) : ∀ k, k ≤ 5 → Sim c (x_bc n q σ k) (y_bc n m τ k)
  | 0, _ => h
  | k + 1, hk => by
    have ih := h.bc hn h1 h2 hm h0 k (by omega)
    have hh := ih.hear hn (k := k) (by omega)
    rw [x_bc_s, y_bc_s, hh]
    by_cases hz : k ≠ n ∧ y_hear (y_bc n m τ k) k n = true
    · rw [if_pos hz, if_pos hz]
      refine ih.recv (by omega) h1 h2 ?_ h0
      have e := (of_decide_eq_true hz.2).2.2.2
      rw [e, y_bc_fn (f := 2) (by decide) (by decide), y_msg_keep (y_bc_fn (by decide) (by decide) k) (y_bc_fn (by decide) (by decide) k) (y_bc_fn (by decide) (by decide) k)]
      exact hm
    · rw [if_neg hz, if_neg hz]
      exact ih
theorem Sim.bcast (h : Sim c σ τ) {n q m : Nat} (hn : n < 5) (h1 : 1 ≤ q) (h2 : q < 49) (hm : m = y_msg τ (τ 2 n) q) (h0 : 0 < m) : Sim c (x_bcast σ n q) (y_bcast τ n m) := by
  refine (h.hold hn h1 h2 hm h0).bc hn h1 h2 ?_ h0 5 (Nat.le_refl _)
  rw [sU_nef (by decide), y_msg_keep (sU_fn (by decide)) (sU_fn (by decide)) (sU_fn (by decide))]
  exact hm
end CAST
