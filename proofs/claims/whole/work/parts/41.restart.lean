/-! 41.restart: five nodes leave one of six objects free; a restart keeps the relation -/
section RESTART
variable {c u : Nat} {σ τ : Nat → Nat → Nat}
theorem sU_comm {f i v g j w : Nat} (h : f ≠ g) : sU (sU σ f i v) g j w = sU (sU σ g j w) f i v := by
  funext a b
  by_cases h1 : a = f
  · rw [sU_nef (show a ≠ g from fun z => h (h1.symm.trans z)), sU_app, sU_app, sU_nef (show a ≠ g from fun z => h (h1.symm.trans z))]
  · by_cases h2 : a = g ∧ b = j
    · rw [sU_app, if_pos h2, sU_app, if_neg (fun z => h1 z.1), sU_app, if_pos h2]
    · rw [sU_ne h2, sU_nef h1, sU_nef h1, sU_ne h2]
theorem or_bits {P : Nat → Prop} [DecidablePred P] {n : Nat} : ∀ k, (it (fun n a => if P n then a ||| 2 ^ n else a) 0 k).testBit n = decide (n < k ∧ P n)
  | 0 => by
    show (0 : Nat).testBit n = _
    rw [Nat.zero_testBit]
    exact (decide_eq_false (fun z => absurd z.1 (by omega))).symm
  | k + 1 => by
    show (if P k then it (fun n a => if P n then a ||| 2 ^ n else a) 0 k ||| 2 ^ k else it (fun n a => if P n then a ||| 2 ^ n else a) 0 k).testBit n = _
    have ih := or_bits (P := P) (n := n) k
    by_cases hp : P k
    · rw [if_pos hp, Nat.testBit_or, ih, Nat.testBit_two_pow]
      by_cases e : k = n
      · subst e
        rw [decide_eq_true (show k = k from rfl), Bool.or_true]
        exact (decide_eq_true ⟨by omega, hp⟩).symm
      · rw [decide_eq_false e, Bool.or_false]
        exact decide_eq_decide.mpr ⟨fun z => ⟨by omega, z.2⟩, fun z => ⟨by omega, z.2⟩⟩
    · rw [if_neg hp, ih]
      refine decide_eq_decide.mpr ⟨fun z => ⟨by omega, z.2⟩, fun z => ⟨?_, z.2⟩⟩
      have : n ≠ k := fun y => hp (y ▸ z.2)
      omega
theorem x_nodes_bit {r n k : Nat} : (x_nodes σ r k).testBit n = decide (n < k ∧ σ 1 n = r + 1) := or_bits (P := fun n => σ 1 n = r + 1) k
theorem x_nodes_z {r : Nat} (h : x_nodes σ r 5 = 0) {k : Nat} (hk : k < 5) : σ 1 k ≠ r + 1 := fun z => by
  have := x_nodes_bit (σ := σ) (r := r) (n := k) (k := 5)
  rw [h, Nat.zero_testBit, decide_eq_true ⟨hk, z⟩] at this
  exact absurd this (by decide)
theorem x_nodes_nz {r : Nat} (h : x_nodes σ r 5 ≠ 0) : ∃ k, k < 5 ∧ σ 1 k = r + 1 := by
  apply Decidable.byContradiction
  intro z
  refine h (Nat.eq_of_testBit_eq (fun i => ?_))
  rw [x_nodes_bit, Nat.zero_testBit]
  exact decide_eq_false (fun y => z ⟨i, y⟩)
theorem x_unf_spec : ∀ j i, x_nodes σ (x_unf σ j i) 5 = 0 ∨ (x_unf σ j i = 5 ∧ ∀ v, i ≤ v → v < i + j → x_nodes σ v 5 ≠ 0)
  | 0, i => Or.inr ⟨rfl, fun v a b => absurd b (by omega)⟩
  | j + 1, i => by
    unfold x_unf
    by_cases h : x_nodes σ i 5 = 0
    · rw [if_pos h]
      exact Or.inl h
    · rw [if_neg h]
      rcases x_unf_spec j (i + 1) with z | z
      · exact Or.inl z
      · refine Or.inr ⟨z.1, fun v a b => ?_⟩
        by_cases e : v = i
        · subst e
          exact h
        · exact z.2 v (by omega) (by omega)
def ind (x v : Nat) : Nat := if x = v then 1 else 0
theorem ind6 (x : Nat) : ind x 1 + ind x 2 + ind x 3 + ind x 4 + ind x 5 + ind x 6 ≤ 1 := by
  match x with
  | 0 => decide
  | 1 => decide
  | 2 => decide
  | 3 => decide
  | 4 => decide
  | 5 => decide
  | 6 => decide
  | x + 7 =>
    unfold ind
    rw [if_neg (by omega), if_neg (by omega), if_neg (by omega), if_neg (by omega), if_neg (by omega), if_neg (by omega)]
    decide
theorem ind_cov {v : Nat} (h : ∃ k, k < 5 ∧ σ 1 k = v) : 1 ≤ ind (σ 1 0) v + ind (σ 1 1) v + ind (σ 1 2) v + ind (σ 1 3) v + ind (σ 1 4) v := by
  obtain ⟨k, hk, e⟩ := h
  have h1 : ind (σ 1 k) v = 1 := if_pos e
  match k, hk with
  | 0, _ => omega
  | 1, _ => omega
  | 2, _ => omega
  | 3, _ => omega
  | 4, _ => omega
theorem x_unused_free {k : Nat} (hk : k < 5) : σ 1 k ≠ x_unused σ + 1 := by
  rcases x_unf_spec (σ := σ) 5 0 with h | ⟨h, h2⟩
  · exact x_nodes_z h hk
  · intro z
    unfold x_unused at z
    rw [h] at z
    have g1 := ind_cov (x_nodes_nz (h2 0 (by omega) (by omega)))
    have g2 := ind_cov (x_nodes_nz (h2 1 (by omega) (by omega)))
    have g3 := ind_cov (x_nodes_nz (h2 2 (by omega) (by omega)))
    have g4 := ind_cov (x_nodes_nz (h2 3 (by omega) (by omega)))
    have g5 := ind_cov (x_nodes_nz (h2 4 (by omega) (by omega)))
    have g6 := ind_cov (σ := σ) ⟨k, hk, z⟩
    have i0 := ind6 (σ 1 0)
    have i1 := ind6 (σ 1 1)
    have i2 := ind6 (σ 1 2)
    have i3 := ind6 (σ 1 3)
    have i4 := ind6 (σ 1 4)
    simp only [Nat.zero_add, Nat.reduceAdd] at g1 g2 g3 g4 g5 g6
    omega
theorem x_ent_one {n r : Nat} : ∀ k, x_ent (2 ^ n) r σ k = if n < k then x_enter σ n r else σ
  | 0 => rfl
  | k + 1 => by
    rw [x_ent_s, x_ent_one k, Nat.testBit_two_pow]
    by_cases e : n = k
    · subst e
      rw [decide_eq_true rfl, if_pos rfl, if_neg (Nat.lt_irrefl _), if_pos (Nat.lt_succ_self _)]
    · rw [decide_eq_false e, if_neg (by decide)]
      by_cases h : n < k
      · rw [if_pos h, if_pos (by omega)]
      · rw [if_neg h, if_neg (by omega)]
theorem x_after_one {n : Nat} (hn : n < 5) : x_after (2 ^ n) 4 = n := by
  match n, hn with
  | 0, _ => decide
  | 1, _ => decide
  | 2, _ => decide
  | 3, _ => decide
  | 4, _ => decide
theorem Sim.restart (h : Sim c σ τ) (hc : c < 512) {n : Nat} (hn : n < 5) : (a_restart σ n).1 = (b_restart τ n).1 ∧ Sim (c + 1) (a_restart σ n).2 (b_restart τ n).2 := by
  have hN := h.2.2.2.1 n hn
  unfold a_restart b_restart
  by_cases h0 : σ 1 n = 0
  · rw [if_pos h0, if_pos (hN.1.1.mp h0)]
    refine ⟨rfl, ?_⟩
    have h2 : 2 ^ n < 32 := Nat.pow_lt_pow_right (a := 2) (m := n) (n := 5) (by decide) hn
    have hr := h.ring (u := x_unused σ) (mem := 2 ^ n) (w := n) x_unused_lt h2 (fun k hk => x_unused_free hk) (x_after_one hn).symm hn hc
    have he := (hr.enter x_unused_lt hn).1
    have e1 : x_enterNew σ (2 ^ n) = s_in (s_ring σ (x_unused σ) (2 ^ n)) n (x_unused σ) := by
      have z : s_ring σ (x_unused σ) (2 ^ n) 1 n = 0 := by rw [s_ring_fn (by omega)]; exact h0
      have ez : x_untok (s_ring σ (x_unused σ) (2 ^ n)) n = s_ring σ (x_unused σ) (2 ^ n) := by simp only [x_untok, z]
      show x_ent (2 ^ n) (x_unused σ) (s_ring σ (x_unused σ) (2 ^ n)) 5 = _
      rw [x_ent_one, if_pos hn]
      unfold x_enter x_leave
      rw [ez]
      rfl
    have e2 : y_newR (sU τ 0 n 1) (2 ^ n) n = sU (y_newR τ (2 ^ n) n) 0 n 1 := by
      unfold y_newR
      rw [sU_nef (by decide), sU_comm (f := 0) (g := 16) (by decide), sU_comm (f := 0) (g := 19) (by decide), sU_comm (f := 0) (g := 17) (by decide)]
    rw [y_newR16] at he
    rw [e1, e2]
    exact he
  · rw [if_neg h0, if_neg (fun z => h0 (hN.1.1.mpr z))]
    exact ⟨rfl, h.mono⟩
end RESTART
