/-! 49.number2: a new number keeps the relation -/
section NUMBER2
variable {c : Nat} {σ τ : Nat → Nat → Nat}
theorem nw0_InvM (h : Sim c σ τ) {n : Nat} (hn : n < 5) (hf : 0 < y_first τ n) : InvM (y_nw0 n (τ 2 n) τ) ∧ cntN τ ≤ cntN (y_nw0 n (τ 2 n) τ) := by
  obtain ⟨f1, f2, f3⟩ := y_first_spec hf
  have f15 : τ 15 (y_first τ n) = 0 := (of_decide_eq_true f3).2.1
  have hg := (h.2.2.1 n hn).1
  obtain ⟨m1, m2, m3, m4, m5, m6, m7⟩ := h.2.1
  have e10 : y_nw0 n (τ 2 n) τ 10 = τ 10 := nw0_fn (by decide)
  have up : cntN τ + 1 ≤ cntN (y_nw0 n (τ 2 n) τ) := by
    unfold cntN
    rw [e10]
    refine cn_lt f1 (decide_eq_false (fun z => z f15)) (decide_eq_true ?_) (τ 10 0) f2 (fun j a1 a2 hd => decide_eq_true ?_)
    · rw [nw0_15, if_pos rfl]
      omega
    · have hd := of_decide_eq_true hd
      rw [nw0_15, if_neg (fun z => hd (by rw [z]; exact f15))]
      exact hd
  refine ⟨⟨fun m a1 a2 a3 => ?_, fun m a1 => ?_, fun m k a1 a2 b1 b2' z1 z2 z3 => ?_, fun r q a1 a2 => ?_, fun r a1 => ?_, fun r => ?_, fun r => ?_⟩, by omega⟩
  · rw [e10] at a2
    rw [nw0_15] at a3 ⊢
    rw [nw0_14, nw0_fn (f := 16) (by decide)]
    by_cases e : m = y_first τ n
    · rw [if_pos e, if_pos e, nw0_18, if_pos rfl]
      exact ⟨hg.1, hg.2.1, Nat.le_refl _⟩
    · rw [if_neg e] at a3
      rw [if_neg e, if_neg e, nw0_18]
      have := m1 m a1 a2 a3
      refine ⟨this.1, this.2.1, ?_⟩
      by_cases e2 : τ 14 m = τ 2 n
      · rw [if_pos e2, ← e2]
        have := this.2.2
        omega
      · rw [if_neg e2]
        exact this.2.2
  · rw [e10] at a1
    rw [nw0_15, if_neg (by omega), nw0_fn (f := 13) (by decide)]
    exact m2 m a1
  · rw [e10] at a2 b2'
    rw [nw0_15, nw0_15] at z2
    rw [nw0_15] at z1
    rw [nw0_14, nw0_14] at z3
    by_cases e : m = y_first τ n
    · by_cases e' : k = y_first τ n
      · rw [e, e']
      · rw [if_pos e, if_neg e'] at z2 z3
        have := (m1 k b1 b2' (by omega)).2.2
        rw [← z3] at this
        omega
    · rw [if_neg e] at z1 z2 z3
      by_cases e' : k = y_first τ n
      · rw [if_pos e'] at z2 z3
        have := (m1 m a1 a2 z1).2.2
        rw [z3] at this
        omega
      · rw [if_neg e'] at z2 z3
        exact m3 m k a1 a2 b1 b2' z1 z2 z3
  · rw [e10]
    by_cases e : r = τ 2 n ∧ q = τ 18 (τ 2 n) + 1
    · exact ⟨y_first τ n, f1, f2, by rw [nw0_15, if_pos rfl, e.2], by rw [nw0_14, if_pos rfl, e.1]⟩
    · have hq : q ≤ τ 18 r := by
        rw [nw0_18] at a2
        by_cases e2 : r = τ 2 n
        · rw [if_pos e2] at a2
          have : q ≠ τ 18 (τ 2 n) + 1 := fun z => e ⟨e2, z⟩
          rw [e2]
          omega
        · rw [if_neg e2] at a2
          exact a2
      obtain ⟨m, w1, w2, w3, w4⟩ := m4 r q a1 hq
      have ne : m ≠ y_first τ n := fun z => by rw [z, f15] at w3; omega
      exact ⟨m, w1, w2, by rw [nw0_15, if_neg ne]; exact w3, by rw [nw0_14, if_neg ne]; exact w4⟩
  · rw [nw0_fn (f := 16) (by decide)] at a1
    rw [nw0_18, if_neg (by omega), nw0_fn (f := 21) (by decide), nw0_fn (f := 20) (by decide)]
    exact m5 r a1
  · rw [nw0_fn (f := 21) (by decide)]
    exact m6 r
  · have := m7 r
    have := m7 (τ 2 n)
    rw [nw0_18]
    by_cases e : r = τ 2 n
    · rw [if_pos e]
      omega
    · rw [if_neg e]
      omega
theorem nw0_InvN (h : Sim c σ τ) {n : Nat} (hf : 0 < y_first τ n) : InvN (y_nw0 n (τ 2 n) τ) := by
  obtain ⟨f1, f2, f3⟩ := y_first_spec hf
  have f15 : τ 15 (y_first τ n) = 0 := (of_decide_eq_true f3).2.1
  intro k hk
  obtain ⟨a, b, d⟩ := h.2.2.1 k hk
  rw [nw0_fn (f := 2) (by decide), nw0_fn (f := 16) (by decide), nw0_fn (f := 6) (by decide), nw0_fn (f := 0) (by decide), nw0_fn (f := 7) (by decide), nw0_fn (f := 10) (by decide), nw0_fn (f := 9) (by decide), nw0_fn (f := 4) (by decide)]
  refine ⟨a, fun hu m a1 a2 a3 => ?_, Nat.le_trans d ?_⟩
  · have := b hu m a1 a2 a3
    have ne : m ≠ y_first τ n := fun z => this.2.1 (by rw [z]; exact f15)
    rw [nw0_15, nw0_14, if_neg ne, if_neg ne]
    exact this
  · unfold cntB
    rw [nw0_fn (f := 10) (by decide)]
    refine cn_mono _ (fun j a1 a2 hd => ?_)
    have hd := of_decide_eq_true hd
    have ne : j ≠ y_first τ n := fun z => hd.1 (by rw [z]; exact f15)
    refine decide_eq_true ?_
    rw [nw0_15, nw0_14, if_neg ne, if_neg ne]
    exact hd
end NUMBER2
