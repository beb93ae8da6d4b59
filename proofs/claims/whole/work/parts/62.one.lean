/-! 62.one: one node's share of a form keeps the relation -/
section ONE
variable {c : Nat} {σ τ : Nat → Nat → Nat}
theorem sU_over {f i v w : Nat} : sU (sU σ f i v) f i w = sU σ f i w := by
  funext g j
  rw [sU_app, sU_app, sU_app]
  split <;> rfl
theorem cntB_mono {r p q : Nat} (h : p ≤ q) : cntB τ r p ≤ cntB τ r q := by
  unfold cntB
  refine cn_mono _ (fun m _ _ hd => ?_)
  have hd := of_decide_eq_true hd
  refine decide_eq_true ⟨hd.1, ?_⟩
  have := hd.2
  omega
/-- a node's place -/
theorem Sim.upto (h : Sim c σ τ) {n p : Nat} (hn : n < 5) (hp : p < 49) (h9 : τ 9 n ≤ cntB τ (τ 2 n) p) : Sim c (sU σ 7 n p) (sU τ 4 n p) := by
  have s : ∀ f, f ≠ 7 → sU σ 7 n p f = σ f := fun f hf => sU_fn hf
  have t : ∀ f, f ≠ 4 → sU τ 4 n p f = τ f := fun f hf => sU_fn hf
  refine ⟨⟨bX_sU h.1.1 hp, bY_sU h.1.2.1 hp, by rw [t 16 (by decide)]; exact h.1.2.2.1, by rw [t 16 (by decide)]; exact h.1.2.2.2⟩, InvM_keep (t _ (by decide)) (t _ (by decide)) (t _ (by decide)) (t _ (by decide)) (t _ (by decide)) (t _ (by decide)) (t _ (by decide)) (t _ (by decide)) h.2.1, fun k hk => ?_, fun k hk => ?_, RelQ_keep (s _ (by decide)) (fun n hn => s _ (by omega)) (t _ (by decide)) (t _ (by decide)) (t _ (by decide)) (t _ (by decide)) h.2.2.2.2.1, RelM_keep (s _ (by decide)) (s _ (by decide)) (s _ (by decide)) (s _ (by decide)) (s _ (by decide)) (t _ (by decide)) (t _ (by decide)) (t _ (by decide)) (t _ (by decide)) (t _ (by decide)) (t _ (by decide)) h.2.2.2.2.2⟩
  · obtain ⟨a, b, d⟩ := h.2.2.1 k hk
    unfold cntB
    rw [t 0 (by decide), t 2 (by decide), t 6 (by decide), t 7 (by decide), t 9 (by decide), t 10 (by decide), t 14 (by decide), t 15 (by decide), t 16 (by decide)]
    refine ⟨a, b, ?_⟩
    by_cases ek : k = n
    · subst ek
      rw [sU_same]
      exact h9
    · rw [sU_nei ek]
      exact d
  · obtain ⟨a, b, d, e, f⟩ := h.2.2.2.1 k hk
    rw [s 1 (by decide), s 5 (by decide), s 8 (by decide), s 9 (by decide), s 4 (by decide), s 6 (by decide), s 2 (by decide), s (30 + k) (by omega), t 0 (by decide), t 1 (by decide), t 5 (by decide), t 9 (by decide), t 8 (by decide), t 3 (by decide), t 6 (by decide), t 2 (by decide)]
    refine ⟨a, b, fun r hr => ?_, fun hu q => ?_, f⟩
    · obtain ⟨d1, d2, d3, d4⟩ := d r hr
      refine ⟨d1, ?_, d3, Rg_keep (by rw [s _ (by decide)]) (by rw [s _ (by decide)]) (by rw [s _ (by decide)]) (by rw [s _ (by decide)]) (by rw [s _ (by decide)]) (s _ (by omega)) (s _ (by omega)) (t _ (by decide)) (t _ (by decide)) (t _ (by decide)) (by rw [t _ (by decide)]) (by rw [t _ (by decide)]) (by rw [t _ (by decide)]) (fun k _ => by rw [t _ (by decide)]) (by rw [t _ (by decide)]) d4⟩
      by_cases ek : k = n
      · subst ek
        rw [sU_same, sU_same]
      · rw [sU_nei ek, sU_nei ek]
        exact d2
    · rw [y_has_keep (t _ (by decide)) (t _ (by decide)) (t _ (by decide)) (t _ (by decide)) (t _ (by decide))]
      exact e hu q
/-- a node's line -/
theorem Sim.line (h : Sim c σ τ) {n p : Nat} (hn : n < 5) (hp : p < 49) : Sim c (sU σ 6 n p) (sU τ 3 n p) := by
  have s : ∀ f, f ≠ 6 → sU σ 6 n p f = σ f := fun f hf => sU_fn hf
  have t : ∀ f, f ≠ 3 → sU τ 3 n p f = τ f := fun f hf => sU_fn hf
  refine ⟨⟨bX_sU h.1.1 hp, bY_sU h.1.2.1 hp, by rw [t 16 (by decide)]; exact h.1.2.2.1, by rw [t 16 (by decide)]; exact h.1.2.2.2⟩, InvM_keep (t _ (by decide)) (t _ (by decide)) (t _ (by decide)) (t _ (by decide)) (t _ (by decide)) (t _ (by decide)) (t _ (by decide)) (t _ (by decide)) h.2.1, InvN_keep (t _ (by decide)) (t _ (by decide)) (t _ (by decide)) (t _ (by decide)) (t _ (by decide)) (t _ (by decide)) (t _ (by decide)) (t _ (by decide)) (t _ (by decide)) (t _ (by decide)) h.2.2.1, fun k hk => ?_, RelQ_keep (s _ (by decide)) (fun n hn => s _ (by omega)) (t _ (by decide)) (t _ (by decide)) (t _ (by decide)) (t _ (by decide)) h.2.2.2.2.1, RelM_keep (s _ (by decide)) (s _ (by decide)) (s _ (by decide)) (s _ (by decide)) (s _ (by decide)) (t _ (by decide)) (t _ (by decide)) (t _ (by decide)) (t _ (by decide)) (t _ (by decide)) (t _ (by decide)) h.2.2.2.2.2⟩
  obtain ⟨a, b, d, e, f⟩ := h.2.2.2.1 k hk
  rw [s 1 (by decide), s 5 (by decide), s 8 (by decide), s 9 (by decide), s 4 (by decide), s 7 (by decide), s 2 (by decide), s (30 + k) (by omega), t 0 (by decide), t 1 (by decide), t 5 (by decide), t 9 (by decide), t 8 (by decide), t 4 (by decide), t 6 (by decide), t 2 (by decide)]
  refine ⟨a, b, fun r hr => ?_, fun hu q => ?_, f⟩
  · obtain ⟨d1, d2, d3, d4⟩ := d r hr
    refine ⟨?_, d2, d3, Rg_keep (by rw [s _ (by decide)]) (by rw [s _ (by decide)]) (by rw [s _ (by decide)]) (by rw [s _ (by decide)]) (by rw [s _ (by decide)]) (s _ (by omega)) (s _ (by omega)) (t _ (by decide)) (t _ (by decide)) (t _ (by decide)) (by rw [t _ (by decide)]) (by rw [t _ (by decide)]) (by rw [t _ (by decide)]) (fun k _ => by rw [t _ (by decide)]) (by rw [t _ (by decide)]) d4⟩
    by_cases ek : k = n
    · subst ek
      rw [sU_same, sU_same]
    · rw [sU_nei ek, sU_nei ek]
      exact d1
  · rw [y_has_keep (t _ (by decide)) (t _ (by decide)) (t _ (by decide)) (t _ (by decide)) (t _ (by decide))]
    exact e hu q
/-- a node's timer -/
theorem Sim.timer (h : Sim c σ τ) {n p : Nat} (hn : n < 5) (hp : p ≤ 3) : Sim c (sU σ 9 n p) (sU τ 6 n p) := by
  have s : ∀ f, f ≠ 9 → sU σ 9 n p f = σ f := fun f hf => sU_fn hf
  have t : ∀ f, f ≠ 6 → sU τ 6 n p f = τ f := fun f hf => sU_fn hf
  refine ⟨⟨bX_sU h.1.1 (show p < 5 by omega), bY_sU h.1.2.1 (show p < 5 by omega), by rw [t 16 (by decide)]; exact h.1.2.2.1, by rw [t 16 (by decide)]; exact h.1.2.2.2⟩, InvM_keep (t _ (by decide)) (t _ (by decide)) (t _ (by decide)) (t _ (by decide)) (t _ (by decide)) (t _ (by decide)) (t _ (by decide)) (t _ (by decide)) h.2.1, fun k hk => ?_, fun k hk => ?_, RelQ_keep (s _ (by decide)) (fun n hn => s _ (by omega)) (t _ (by decide)) (t _ (by decide)) (t _ (by decide)) (t _ (by decide)) h.2.2.2.2.1, RelM_keep (s _ (by decide)) (s _ (by decide)) (s _ (by decide)) (s _ (by decide)) (s _ (by decide)) (t _ (by decide)) (t _ (by decide)) (t _ (by decide)) (t _ (by decide)) (t _ (by decide)) (t _ (by decide)) h.2.2.2.2.2⟩
  · obtain ⟨a, b, d⟩ := h.2.2.1 k hk
    unfold cntB
    rw [t 0 (by decide), t 2 (by decide), t 4 (by decide), t 7 (by decide), t 9 (by decide), t 10 (by decide), t 14 (by decide), t 15 (by decide), t 16 (by decide)]
    refine ⟨⟨a.1, a.2.1, ?_⟩, b, d⟩
    by_cases ek : k = n
    · subst ek
      rw [sU_same]
      exact hp
    · rw [sU_nei ek]
      exact a.2.2
  · obtain ⟨⟨a1, a2, a3, a4⟩, b, d, e, f⟩ := h.2.2.2.1 k hk
    rw [s 1 (by decide), s 5 (by decide), s 8 (by decide), s 7 (by decide), s 4 (by decide), s 6 (by decide), s 2 (by decide), s (30 + k) (by omega), t 0 (by decide), t 1 (by decide), t 5 (by decide), t 9 (by decide), t 8 (by decide), t 3 (by decide), t 4 (by decide), t 2 (by decide)]
    refine ⟨⟨a1, a2, a3, ?_⟩, b, fun r hr => ?_, fun hu q => ?_, f⟩
    · by_cases ek : k = n
      · subst ek
        rw [sU_same]
        exact hp
      · rw [sU_nei ek]
        exact a4
    · obtain ⟨d1, d2, d3, d4⟩ := d r hr
      refine ⟨d1, d2, ?_, Rg_keep (by rw [s _ (by decide)]) (by rw [s _ (by decide)]) (by rw [s _ (by decide)]) (by rw [s _ (by decide)]) (by rw [s _ (by decide)]) (s _ (by omega)) (s _ (by omega)) (t _ (by decide)) (t _ (by decide)) (t _ (by decide)) (by rw [t _ (by decide)]) (by rw [t _ (by decide)]) (by rw [t _ (by decide)]) (fun k _ => by rw [t _ (by decide)]) (by rw [t _ (by decide)]) d4⟩
      by_cases ek : k = n
      · subst ek
        rw [sU_same, sU_same]
      · rw [sU_nei ek, sU_nei ek]
        exact d3
    · rw [y_has_keep (t _ (by decide)) (t _ (by decide)) (t _ (by decide)) (t _ (by decide)) (t _ (by decide))]
      exact e hu q
/-- what the nodes of a group hold together -/
theorem Sim.lhbit (h : Sim c σ τ) {n r C q : Nat} (hn : n < 5) (hr : σ 1 n = r + 1) (hC : ∀ k, C.testBit k = true → k < 5 ∧ σ 1 k = r + 1) : ∀ k, k ≤ 5 → (x_lh σ C k).testBit q = (decide (1 ≤ q ∧ 0 < y_msg τ (τ 2 n) q) && y_one τ C (y_msg τ (τ 2 n) q) k)
  | 0, _ => by
    show (0 : Nat).testBit q = (_ && false)
    rw [Nat.zero_testBit, Bool.and_false]
  | k + 1, hk => by
    have ih := h.lhbit (q := q) hn hr hC k (by omega)
    rw [x_lh_s, y_one_s]
    by_cases hz : C.testBit k = true
    · obtain ⟨k5, kr⟩ := hC k hz
      obtain ⟨_, k2⟩ := (h.inring hn k5 hr).mp kr
      have eb := (h.2.2.2.1 k k5).2.2.2.1 (by omega) q
      unfold y_has at eb
      rw [k2] at eb
      rw [if_pos hz, Nat.testBit_or, ih, eb]
      unfold y_oc
      by_cases hA : 1 ≤ q ∧ 0 < y_msg τ (τ 2 n) q
      · have e1 : decide (0 < y_msg τ (τ 2 n) q ∧ τ 7 (49 * k + y_msg τ (τ 2 n) q) ≠ 0) = decide (C.testBit k = true ∧ τ 7 (49 * k + y_msg τ (τ 2 n) q) ≠ 0) := decide_eq_decide.mpr ⟨fun z => ⟨hz, z.2⟩, fun z => ⟨hA.2, z.2⟩⟩
        rw [e1, decide_eq_true hA, decide_eq_true hA.1, Bool.true_and, Bool.true_and, Bool.true_and]
      · have e1 : (decide (1 ≤ q) && decide (0 < y_msg τ (τ 2 n) q ∧ τ 7 (49 * k + y_msg τ (τ 2 n) q) ≠ 0)) = false := by
          by_cases hq : 1 ≤ q
          · have hf : ¬ (0 < y_msg τ (τ 2 n) q ∧ τ 7 (49 * k + y_msg τ (τ 2 n) q) ≠ 0) := fun z => hA ⟨hq, z.1⟩
            rw [decide_eq_false hf, Bool.and_false]
          · rw [decide_eq_false hq, Bool.false_and]
        rw [e1, decide_eq_false hA, Bool.false_and, Bool.false_and]
        rfl
    · have e1 : y_oc τ C (y_msg τ (τ 2 n) q) k = false := decide_eq_false (fun z => hz z.1)
      rw [if_neg hz, ih, e1, Bool.or_false]
theorem Sim.llsl (h : Sim c σ τ) {n r C : Nat} (hn : n < 5) (hr : σ 1 n = r + 1) (hC : ∀ k, C.testBit k = true → k < 5 ∧ σ 1 k = r + 1) : ∀ k, k ≤ 5 → x_ll σ C k = y_sl τ C k
  | 0, _ => rfl
  | k + 1, hk => by
    rw [x_ll_s, y_sl_s, h.llsl hn hr hC k (by omega)]
    by_cases hz : C.testBit k = true
    · obtain ⟨k5, kr⟩ := hC k hz
      rw [if_pos hz, ((h.2.2.2.1 k k5).2.2.1 r kr).1]
      by_cases hl : y_sl τ C k < τ 3 k
      · rw [if_pos ⟨hz, hl⟩]
        exact Nat.max_eq_right (by omega)
      · rw [if_neg (fun z => hl z.2)]
        exact Nat.max_eq_left (by omega)
    · rw [if_neg hz, if_neg (fun z => hz z.1)]
theorem y_one_ex {C m : Nat} : ∀ k, y_one τ C m k = true → ∃ j, j < k ∧ C.testBit j = true ∧ τ 7 (49 * j + m) ≠ 0
  | 0, h => by
    have h : false = true := h
    exact absurd h (by decide)
  | k + 1, h => by
    rw [y_one_s, Bool.or_eq_true] at h
    rcases h with h | h
    · obtain ⟨j, j1, j2⟩ := y_one_ex k h
      exact ⟨j, by omega, j2⟩
    · have z := of_decide_eq_true h
      exact ⟨k, by omega, z⟩
/-- a node of the group holds what they hold together -/
theorem Sim.together (h : Sim c σ τ) {n r C : Nat} (hn : n < 5) (hr : σ 1 n = r + 1) (hC : ∀ k, C.testBit k = true → k < 5 ∧ σ 1 k = r + 1) : Sim c (sU σ 2 n (x_lh σ C 5)) (t_h τ n C) := by
  have s : ∀ f, f ≠ 2 → sU σ 2 n (x_lh σ C 5) f = σ f := fun f hf => sU_fn hf
  have t : ∀ f, f ≠ 7 → t_h τ n C f = τ f := fun f hf => t_h_fn hf
  have e10 := t 10 (by decide)
  have e14 := t 14 (by decide)
  have e15 := t 15 (by decide)
  have hbY := h.1.2.1
  have hbY' : bY (t_h τ n C) := by
    intro f j
    unfold t_h
    split
    · rename_i z
      rw [z.1]
      exact (show b2 _ < 2 from Nat.lt_succ_of_le (b2_le _))
    · exact hbY f j
  refine ⟨⟨bX_sU h.1.1 (x_lh_lt h.1.1 5), hbY', by rw [t 16 (by decide)]; exact h.1.2.2.1, by rw [t 16 (by decide)]; exact h.1.2.2.2⟩, InvM_keep e10 (t _ (by decide)) e14 e15 (t _ (by decide)) (t _ (by decide)) (t _ (by decide)) (t _ (by decide)) h.2.1, fun k hk => ?_, fun k hk => ?_, RelQ_keep (s _ (by decide)) (fun n hn => s _ (by omega)) e10 (t _ (by decide)) (t _ (by decide)) e15 h.2.2.2.2.1, RelM_keep (s _ (by decide)) (s _ (by decide)) (s _ (by decide)) (s _ (by decide)) (s _ (by decide)) e10 (t _ (by decide)) (t _ (by decide)) e14 e15 (t _ (by decide)) h.2.2.2.2.2⟩
  · obtain ⟨a, b, d⟩ := h.2.2.1 k hk
    unfold cntB
    rw [t 0 (by decide), t 2 (by decide), t 4 (by decide), t 6 (by decide), t 9 (by decide), e10, e14, e15, t 16 (by decide)]
    refine ⟨a, fun z m a1 a2 a3 => ?_, d⟩
    by_cases ek : k = n
    · subst ek
      rw [t_h_at a1 a2] at a3
      obtain ⟨j, j1, j2, j3⟩ := y_one_ex 5 (b2_n0.mp a3)
      obtain ⟨u1, u2⟩ := (h.inring hn j1 hr).mp (hC j j2).2
      have w := (h.2.2.1 j j1).2.1 u1 m a1 a2 j3
      rw [u2] at w
      exact w
    · rw [t_h_ne a1 a2 ek] at a3
      exact b z m a1 a2 a3
  · obtain ⟨a, b, d, e, f⟩ := h.2.2.2.1 k hk
    rw [s 1 (by decide), s 5 (by decide), s 8 (by decide), s 9 (by decide), s 7 (by decide), s 4 (by decide), s 6 (by decide), s (30 + k) (by omega), t 0 (by decide), t 1 (by decide), t 5 (by decide), t 9 (by decide), t 8 (by decide), t 3 (by decide), t 4 (by decide), t 6 (by decide), t 2 (by decide)]
    refine ⟨a, b, fun r1 hr1 => ?_, fun hu q => ?_, f⟩
    · obtain ⟨d1, d2, d3, d4⟩ := d r1 hr1
      exact ⟨d1, d2, d3, Rg_keep (by rw [s _ (by decide)]) (by rw [s _ (by decide)]) (by rw [s _ (by decide)]) (by rw [s _ (by decide)]) (by rw [s _ (by decide)]) (s _ (by omega)) (s _ (by omega)) e10 e14 e15 (by rw [t _ (by decide)]) (by rw [t _ (by decide)]) (by rw [t _ (by decide)]) (fun k _ => by rw [t _ (by decide)]) (by rw [t _ (by decide)]) d4⟩
    · have hl := y_msg_lt (r := τ 2 k) (q := q) hbY
      unfold y_has
      rw [t 2 (by decide), y_msg_keep e10 e14 e15]
      by_cases ek : k = n
      · subst ek
        rw [sU_same, h.lhbit hk hr hC 5 (by decide)]
        by_cases hA : 1 ≤ q ∧ 0 < y_msg τ (τ 2 k) q
        · rw [decide_eq_true hA, decide_eq_true hA.1, Bool.true_and, Bool.true_and, t_h_at hA.2 (by omega)]
          cases ho : y_one τ C (y_msg τ (τ 2 k) q) 5 with
          | true => exact (decide_eq_true ⟨hA.2, by decide⟩).symm
          | false => exact (decide_eq_false (fun z => z.2 rfl)).symm
        · rw [decide_eq_false hA, Bool.false_and]
          by_cases hq : 1 ≤ q
          · have hf : ¬ (0 < y_msg τ (τ 2 k) q ∧ t_h τ k C 7 (49 * k + y_msg τ (τ 2 k) q) ≠ 0) := fun z => hA ⟨hq, z.1⟩
            rw [decide_eq_false hf, Bool.and_false]
          · rw [decide_eq_false hq, Bool.false_and]
      · rw [sU_nei ek, e hu q]
        refine congrArg (fun x => decide (1 ≤ q) && x) ?_
        unfold y_has
        refine decide_eq_decide.mpr ⟨fun z => ⟨z.1, ?_⟩, fun z => ⟨z.1, ?_⟩⟩
        · rw [t_h_ne z.1 (by omega) ek]
          exact z.2
        · rw [← t_h_ne (s := τ) (n := n) (c := C) z.1 (by omega) ek]
          exact z.2
/-- the end of a node's log in its ring -/
theorem Sim.tr {n r C : Nat} (hn : n < 5) : ∀ (j i : Nat) (g : Bool) {s t : Nat → Nat → Nat}, Sim c (sU s 7 n i) (sU t 4 n i) → s 1 n = r + 1 → i + j = 48 → Sim c (sU (x_tr n r C j (i + 1) g s) 7 n 48) (sU (y_fn n C j (i + 1) g t) 4 n 48) ∧ y_fnOK n C j (i + 1) g t
  | 0, i, g, s, t, h, hr, hi => by
    have e : i = 48 := by omega
    subst e
    exact ⟨h, trivial⟩
  | j + 1, i, g, s, t, h, hr, hi => by
    have t_ : ∀ f, f ≠ 4 → sU t 4 n i f = t f := fun f hf => sU_fn hf
    have s_ : ∀ f, f ≠ 7 → sU s 7 n i f = s f := fun f hf => sU_fn hf
    have hr' : sU s 7 n i 1 n = r + 1 := by
      rw [s_ 1 (by decide)]
      exact hr
    have h9 := (h.2.2.1 n hn).2.2
    rw [sU_same] at h9
    have up : Sim c (sU s 7 n (i + 1)) (sU t 4 n (i + 1)) := by
      have := h.upto hn (p := i + 1) (by omega) (Nat.le_trans h9 (cntB_mono (by omega)))
      rw [sU_over, sU_over] at this
      exact this
    have eb := (h.2.2.2.1 n hn).2.2.2.1 (by omega) (i + 1)
    rw [decide_eq_true (show 1 ≤ i + 1 by omega), Bool.true_and, s_ 2 (by decide), y_has_keep (t_ _ (by decide)) (t_ _ (by decide)) (t_ _ (by decide)) (t_ _ (by decide)) (t_ _ (by decide))] at eb
    unfold x_tr y_fn y_fnOK
    rw [eb]
    by_cases hz : y_has t n (i + 1) = true
    · rw [if_pos hz, if_pos hz, if_pos hz]
      have hp := (of_decide_eq_true hz).1
      have sp := y_msg_spec hp
      have hR := ((h.2.2.2.1 n hn).2.2.1 r hr').2.2.2
      rw [t_ 2 (by decide)] at hR
      have em : s (40 + r) (i + 1) = y_msg t (t 2 n) (i + 1) := by
        have a := (h.2.1.1 (y_msg t (t 2 n) (i + 1)) sp.1 (by rw [t_ 10 (by decide)]; exact sp.2.1) (by rw [t_ 15 (by decide), sp.2.2.1]; omega)).2.2
        rw [t_ 14 (by decide), t_ 15 (by decide), sp.2.2.1, sp.2.2.2] at a
        have b := hR.2.2.2.2.2.2 (i + 1) (by omega) (by rw [hR.2.2.2.1]; exact a)
        rw [s_ _ (by omega), y_msg_keep (t_ _ (by decide)) (t_ _ (by decide)) (t_ _ (by decide))] at b
        exact b
      have e60 : s 60 (y_msg t (t 2 n) (i + 1)) = t 11 (y_msg t (t 2 n) (i + 1)) := by
        have a := (h.2.2.2.2.2.2.2.1 (y_msg t (t 2 n) (i + 1)) sp.1 (by rw [t_ 10 (by decide)]; exact sp.2.1)).1
        rw [s_ 60 (by decide), t_ 11 (by decide)] at a
        exact a
      rw [em, e60]
      by_cases hy : g = false ∨ C.testBit (t 11 (y_msg t (t 2 n) (i + 1))) = true
      · have hy' : y_fc t n C (i + 1) g = true := decide_eq_true hy
        rw [if_pos hy, if_pos hy', if_pos hy']
        obtain ⟨l1, l2, l3⟩ := h.logroom (n := n) (m := y_msg t (t 2 n) (i + 1)) (q := i) sp.1 (by rw [t_ 10 (by decide)]; exact sp.2.1) (by rw [t_ 15 (by decide)]; exact sp.2.2.1) (by rw [t_ 14 (by decide), t_ 2 (by decide)]; exact sp.2.2.2) h9
        have b10 : t 10 0 < 49 := by
          have : sU t 4 n i 10 0 < 49 := h.1.2.1 10 0
          rw [t_ 10 (by decide)] at this
          exact this
        have e4 : s 4 n = t 9 n := by
          have := (h.2.2.2.1 n hn).2.1.1
          rw [s_ 4 (by decide), t_ 9 (by decide)] at this
          exact this
        have l2' : t 9 n < 48 := by
          rw [t_ 9 (by decide)] at l2
          exact l2
        have hs := h.log hn (e := 2 * y_msg t (t 2 n) (i + 1) + 1) (p := i + 1) (by omega) (by omega) l2 l1
        have ex : s_d (sU s 7 n i) n (2 * y_msg t (t 2 n) (i + 1) + 1) (i + 1) = sU (x_app s n (2 * y_msg t (t 2 n) (i + 1) + 1)) 7 n (i + 1) := by
          unfold s_d x_app
          rw [if_pos (by omega), s_ 4 (by decide), sU_comm (f := 7) (g := 30 + n) (by omega), sU_comm (f := 7) (g := 4) (by decide), sU_over]
        have ey : t_d (sU t 4 n i) n (2 * y_msg t (t 2 n) (i + 1) + 1) (i + 1) = sU (y_fa t n (i + 1)) 4 n (i + 1) := by
          unfold t_d y_fa y_app
          rw [t_ 9 (by decide), sU_comm (f := 4) (g := 8) (by decide), sU_comm (f := 4) (g := 9) (by decide), sU_over]
        rw [ex, ey] at hs
        have hr2 : x_app s n (2 * y_msg t (t 2 n) (i + 1) + 1) 1 n = r + 1 := by
          rw [x_app_ne (by decide) (by omega)]
          exact hr
        have k := Sim.tr (C := C) hn j (i + 1) g hs hr2 (by omega)
        exact ⟨k.1, l2', k.2⟩
      · have hy' : ¬ y_fc t n C (i + 1) g = true := fun z => hy (of_decide_eq_true z)
        rw [if_neg hy, if_neg hy', if_neg hy']
        exact Sim.tr hn j (i + 1) g up hr (by omega)
    · rw [if_neg hz, if_neg hz, if_neg hz]
      exact Sim.tr hn j (i + 1) true up hr (by omega)
/-- one node's share; the place counts no more behind it -/
theorem Sim.one (h : Sim c σ τ) {n r C : Nat} (hn : n < 5) (hr : σ 1 n = r + 1) (hC : ∀ k, C.testBit k = true → k < 5 ∧ σ 1 k = r + 1) : Sim c (sU (x_n1 r C (x_lh σ C 5) (x_ll σ C 5) n σ) 7 n 48) (sU (y_s2 C (y_sl τ C 5) n (t_h τ n C)) 4 n 48) ∧ y_s2OK C (y_sl τ C 5) n (t_h τ n C) := by
  have h1 := (h.together hn hr hC).line (n := n) (p := x_ll σ C 5) hn (x_ll_lt h.1.1 5)
  have hr1 : sU (sU σ 2 n (x_lh σ C 5)) 6 n (x_ll σ C 5) 1 n = r + 1 := by
    rw [sU_nef (by decide), sU_nef (by decide)]
    exact hr
  have e7 := ((h1.2.2.2.1 n hn).2.2.1 r hr1).2.1
  obtain ⟨i1, i2, i3, i4⟩ := Sim.del (r := r) hn (48 - sU (sU σ 2 n (x_lh σ C 5)) 6 n (x_ll σ C 5) 7 n) 48 h1 hr1 (by omega) (by omega)
  have i1' : Sim c (x_l1 r C (x_lh σ C 5) (x_ll σ C 5) n σ) (y_s1 (x_ll σ C 5) n (t_h τ n C)) := i1
  have hr2 : x_l1 r C (x_lh σ C 5) (x_ll σ C 5) n σ 1 n = r + 1 := by
    rw [x_l1_ne (by decide) (by decide) (by decide) (by decide) (by omega)]
    exact hr
  have e7' := ((i1'.2.2.2.1 n hn).2.2.1 r hr2).2.1
  have b7 : x_l1 r C (x_lh σ C 5) (x_ll σ C 5) n σ 7 n < 49 := i1'.1.1 7 n
  have e1 : sU (x_l1 r C (x_lh σ C 5) (x_ll σ C 5) n σ) 7 n (x_l1 r C (x_lh σ C 5) (x_ll σ C 5) n σ 7 n) = x_l1 r C (x_lh σ C 5) (x_ll σ C 5) n σ := sU_self
  have e2 : sU (y_s1 (x_ll σ C 5) n (t_h τ n C)) 4 n (x_l1 r C (x_lh σ C 5) (x_ll σ C 5) n σ 7 n) = y_s1 (x_ll σ C 5) n (t_h τ n C) := by
    rw [e7']
    exact sU_self
  have k := Sim.tr (C := C) hn (48 - x_l1 r C (x_lh σ C 5) (x_ll σ C 5) n σ 7 n) (x_l1 r C (x_lh σ C 5) (x_ll σ C 5) n σ 7 n) false (s := x_l1 r C (x_lh σ C 5) (x_ll σ C 5) n σ) (t := y_s1 (x_ll σ C 5) n (t_h τ n C)) (by rw [e1, e2]; exact i1') hr2 (by omega)
  have el := h.llsl hn hr hC 5 (by decide)
  unfold x_n1 y_s2 y_s2OK
  rw [← el, ← e7']
  exact ⟨k.1, i2, k.2⟩
end ONE
