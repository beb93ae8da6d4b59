/-! 50.number3: a new number keeps the relation, both sides -/
section NUMBER3
variable {c : Nat} {σ τ : Nat → Nat → Nat}
def s_num (σ : Nat → Nat → Nat) (n r : Nat) : Nat → Nat → Nat := sU (sU (sU (x_deq σ n) 13 r (σ 13 r + 1)) (40 + r) (σ 13 r + 1) (σ (20 + n) 0)) 62 (σ (20 + n) 0) (64 * σ 10 r + (σ 13 r + 1))
theorem s_num_fn {n r f : Nat} (h : f ≠ 3 ∧ f ≠ 20 + n ∧ f ≠ 13 ∧ f ≠ 40 + r ∧ f ≠ 62) : s_num σ n r f = σ f := by
  unfold s_num
  rw [sU_fn h.2.2.2.2, sU_fn h.2.2.2.1, sU_fn h.2.2.1]
  exact funext fun _ => x_deq_ne h.1 h.2.1
theorem Sim.number (h : Sim c σ τ) {n r : Nat} (hn : n < 5) (hr : σ 1 n = r + 1) (h0 : 0 < σ 3 n) : Sim c (s_num σ n r) (y_nw0 n (τ 2 n) τ) := by
  have hr6 : r < 6 := by have : σ 1 n < 7 := h.1.1 1 n; omega
  have hh := h.head hn h0
  have hf : 0 < y_first τ n := by
    have := ((h.2.2.2.2.1 n hn).2 0 h0).1
    omega
  obtain ⟨f1, f2, f3⟩ := y_first_spec hf
  have f15 : τ 15 (y_first τ n) = 0 := (of_decide_eq_true f3).2.1
  have hroom : τ 18 (τ 2 n) < 48 := h.room f1 f2 f15
  have hIM := nw0_InvM h hn hf
  have hIN := nw0_InvN h (n := n) hf
  obtain ⟨⟨hbX, hbY, h16, h16'⟩, hM, hIN0, hRN, hRQ, hRM⟩ := h
  obtain ⟨_, _, _, hR⟩ := (hRN n hn).2.2.1 r hr
  have e13 : σ 13 r = τ 18 (τ 2 n) := hR.2.2.2.1
  have e10' : σ 10 r = τ 2 n := hR.1
  have t_ : ∀ f, f ≠ 14 ∧ f ≠ 15 ∧ f ≠ 18 → y_nw0 n (τ 2 n) τ f = τ f := fun f hf => nw0_fn hf
  have w13 : ∀ j, s_num σ n r 13 j = if j = r then σ 13 r + 1 else σ 13 j := fun j => by
    unfold s_num
    rw [sU_nef (by decide), sU_nef (by omega)]
    by_cases e : j = r
    · rw [e, sU_same, if_pos rfl]
    · rw [sU_nei e, if_neg e, x_deq_ne (by decide) (by omega)]
  have w40 : ∀ j, s_num σ n r (40 + r) j = if j = σ 13 r + 1 then y_first τ n else σ (40 + r) j := fun j => by
    unfold s_num
    rw [sU_nef (by omega)]
    by_cases e : j = σ 13 r + 1
    · rw [e, sU_same, if_pos rfl, hh]
    · rw [sU_nei e, if_neg e, sU_nef (by omega), x_deq_ne (by omega) (by omega)]
  have w62 : ∀ m, s_num σ n r 62 m = if m = y_first τ n then 64 * τ 2 n + (τ 18 (τ 2 n) + 1) else σ 62 m := fun m => by
    unfold s_num
    rw [hh, e10', e13]
    by_cases e : m = y_first τ n
    · rw [e, sU_same, if_pos rfl]
    · rw [sU_nei e, if_neg e, sU_nef (by omega), sU_nef (by decide), x_deq_ne (by decide) (by omega)]
  have w3 : ∀ k, s_num σ n r 3 k = if k = n then σ 3 n - 1 else σ 3 k := fun k => by
    unfold s_num x_deq
    rw [sU_nef (by decide), sU_nef (by omega), sU_nef (by decide)]
    by_cases e : k = n
    · rw [e, sU_same, if_pos rfl]
    · rw [sU_nei e, if_neg e, x_shift_ne (by omega)]
  have w20 : ∀ i, i < σ 3 n - 1 → s_num σ n r (20 + n) i = σ (20 + n) (i + 1) := fun i hi => by
    unfold s_num x_deq
    rw [sU_nef (by omega), sU_nef (by omega), sU_nef (by omega), sU_nef (by omega), shift_at, if_pos hi]
  refine ⟨⟨bX_nw0 hbX hn hr6 (by omega), bY_nw0 hbY (hbY 2 n) hroom, by rw [t_ 16 (by decide)]; exact h16, by rw [t_ 16 (by decide)]; exact h16'⟩, hIM.1, hIN, ?_, ?_, ?_⟩
  · intro k hk
    obtain ⟨a, b, d, e, f⟩ := hRN k hk
    rw [s_num_fn (f := 1) (by omega), s_num_fn (f := 5) (by omega), s_num_fn (f := 8) (by omega), s_num_fn (f := 9) (by omega), s_num_fn (f := 4) (by omega), s_num_fn (f := 6) (by omega), s_num_fn (f := 7) (by omega), s_num_fn (f := 2) (by omega), s_num_fn (f := 30 + k) (by omega), t_ 0 (by decide), t_ 1 (by decide), t_ 5 (by decide), t_ 9 (by decide), t_ 8 (by decide), t_ 3 (by decide), t_ 4 (by decide), t_ 6 (by decide), t_ 2 (by decide)]
    refine ⟨a, b, fun r1 hr1 => ?_, fun hu q => ?_, f⟩
    · obtain ⟨d1, d2, d3, g0, g1, g2, g3, g4, g5, g6⟩ := d r1 hr1
      have hr16 : r1 < 6 := by have : σ 1 k < 7 := hbX 1 k; omega
      refine ⟨d1, d2, d3, by rw [s_num_fn (by omega)]; exact g0, by rw [s_num_fn (by omega), t_ _ (by decide)]; exact g1, by rw [s_num_fn (by omega), t_ _ (by decide)]; exact g2, ?_, by rw [s_num_fn (by omega), t_ _ (by decide)]; exact g4, fun j hj => by rw [s_num_fn (by omega), t_ _ (by decide)]; exact g5 j hj, fun q a1 a2 => ?_⟩
      · rw [w13, nw0_18]
        by_cases er : r1 = r
        · have g : τ 2 k = τ 2 n := by rw [← g0, er, e10']
          rw [if_pos er, if_pos g, e13]
        · have g : τ 2 k ≠ τ 2 n := fun z => by
            have := (hRN n hn).2.2.2.2 k hk (by omega) (by omega) z.symm
            omega
          rw [if_neg er, if_neg g]
          exact g3
      · rw [w13] at a2
        by_cases er : r1 = r
        · subst er
          have g : τ 2 k = τ 2 n := by rw [← g0, e10']
          rw [if_pos rfl] at a2
          rw [w40, g]
          by_cases eq : q = σ 13 r1 + 1
          · rw [if_pos eq, eq, e13, nw0_msg_new hM hf]
          · rw [if_neg eq, nw0_msg_old hM hf a1 (fun z => eq (by rw [z.2, e13])), ← g]
            exact g6 q a1 (by omega)
        · have g : τ 2 k ≠ τ 2 n := fun z => by
            have := (hRN n hn).2.2.2.2 k hk (by omega) (by omega) z.symm
            omega
          rw [if_neg er] at a2
          rw [s_num_fn (by omega), nw0_msg_old hM hf a1 (fun z => g z.1)]
          exact g6 q a1 a2
    · rw [e hu q]
      by_cases hq : 1 ≤ q
      · refine congrArg (fun x => decide (1 ≤ q) && x) ?_
        have u0 : τ 0 k ≠ 0 := fun z => hu (a.1.mpr z)
        unfold y_has
        rw [t_ 2 (by decide), t_ 7 (by decide)]
        by_cases eq : τ 2 k = τ 2 n ∧ q = τ 18 (τ 2 n) + 1
        · rw [eq.1, eq.2, nw0_msg_none hM, nw0_msg_new hM hf]
          have b10 : τ 10 0 < 49 := hbY 10 0
          refine decide_eq_decide.mpr ⟨fun z => absurd z.1 (by omega), fun z => ?_⟩
          exact absurd f15 ((hIN0 k hk).2.1 u0 _ f1 (by omega) z.2).2.1
        · rw [nw0_msg_old hM hf hq eq]
      · rw [decide_eq_false hq, Bool.false_and, Bool.false_and]
  · intro k hk
    obtain ⟨a, b⟩ := hRQ k hk
    rw [w3, t_ 10 (by decide)]
    by_cases ek : k = n
    · subst ek
      have q0 := nw0_qd_n (g := τ 2 k) hf (τ 10 0)
      rw [if_pos f2] at q0
      rw [if_pos rfl]
      refine ⟨by omega, fun i hi => ?_⟩
      rw [w20 i hi]
      obtain ⟨b1, b2', b3, b4⟩ := b (i + 1) (by omega)
      have c4 := (b 0 h0).2.2.2
      rw [hh] at c4
      have ne : σ (20 + k) (i + 1) ≠ y_first τ k := fun z => by rw [z] at b4; omega
      have ge : y_first τ k ≤ σ (20 + k) (i + 1) := by
        apply Decidable.byContradiction
        intro z
        have : y_wait τ k (σ (20 + k) (i + 1)) = false := by
          have q1 := nw0_qd_n (g := τ 2 k) hf (y_first τ k)
          rw [if_pos (Nat.le_refl _)] at q1
          have zz := y_qd_0 (τ := y_nw0 k (τ 2 k) τ) (n := k) (y_first τ k) (by omega) (σ (20 + k) (i + 1)) b1 (by omega)
          rw [nw0_wait ne] at zz
          exact zz
        rw [this] at b3
        exact absurd b3 (by decide)
      have q2 := nw0_qd_n (g := τ 2 k) hf (σ (20 + k) (i + 1))
      rw [if_pos ge] at q2
      exact ⟨b1, b2', by rw [nw0_wait ne]; exact b3, by omega⟩
    · rw [if_neg ek, nw0_qd_o hf ek, s_num_fn (by omega)]
      refine ⟨a, fun i hi => ?_⟩
      obtain ⟨b1, b2', b3, b4⟩ := b i hi
      have ne : σ (20 + k) i ≠ y_first τ n := fun z => by
        rw [z] at b3
        exact ek ((of_decide_eq_true b3).1.symm.trans (of_decide_eq_true f3).1)
      rw [nw0_wait ne, nw0_qd_o hf ek]
      exact ⟨b1, b2', b3, b4⟩
  · obtain ⟨a, b, d, e⟩ := hRM
    refine ⟨by rw [s_num_fn (by omega), t_ _ (by decide)]; exact a, by rw [s_num_fn (by omega), t_ _ (by decide)]; exact b, fun m a1 a2 => ?_, fun m a1 => ?_⟩
    · rw [t_ 10 (by decide)] at a2
      rw [s_num_fn (f := 60) (by omega), s_num_fn (f := 61) (by omega), t_ 11 (by decide), t_ 12 (by decide), w62]
      obtain ⟨d1, d2, d3⟩ := d m a1 a2
      refine ⟨d1, d2, ?_⟩
      unfold b_stamp at *
      rw [nw0_15, nw0_14]
      by_cases em : m = y_first τ n
      · rw [if_pos em, if_pos em, if_pos em, if_neg (by omega)]
        omega
      · rw [if_neg em, if_neg em, if_neg em]
        exact d3
    · rw [t_ 10 (by decide)] at a1
      rw [w62, if_neg (by omega)]
      exact e m a1
end NUMBER3
