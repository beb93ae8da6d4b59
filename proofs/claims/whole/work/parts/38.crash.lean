/-! 38.crash: a node gives its token up; a crash keeps the relation -/
section CRASH
variable {c : Nat} {σ τ : Nat → Nat → Nat}
theorem sU_self {σ : Nat → Nat → Nat} {f i : Nat} : sU σ f i (σ f i) = σ := by
  funext g j
  rw [sU_app]
  split
  · rename_i q
    rw [q.1, q.2]
  · rfl
theorem Sim.untok (h : Sim c σ τ) {n : Nat} (hn : n < 5) (hu : σ 1 n ≠ 0) : Sim c (x_untok σ n) (y_untok τ n) := by
  cases hr : σ 1 n with
  | zero => exact absurd hr hu
  | succ r =>
    have g2 := ((h.2.2.2.1 n hn).2.2.1 r hr).2.2.2.2.2.1
    simp only [x_untok, y_untok, hr, g2]
    by_cases hz : τ 17 (τ 2 n) = n + 1
    · rw [if_pos hz, if_pos hz]
      exact h.token hn hr (by decide)
    · rw [if_neg hz, if_neg hz, sU_self]
      exact h
theorem y_gn_fn {n f k : Nat} (h : f ≠ 13) : y_gn n τ k f = τ f := funext fun _ => y_gn_ne h k
theorem gn13 {n m : Nat} : ∀ k, y_gn n τ k 13 m = 0 ↔ (τ 13 m = 0 ∧ ¬ (1 ≤ m ∧ m ≤ k ∧ τ 11 m = n ∧ τ 15 m = 0))
  | 0 => ⟨fun h => ⟨h, by omega⟩, fun h => h.1⟩
  | k + 1 => by
    have ih := gn13 (n := n) (m := m) k
    rw [y_gn_s]
    by_cases e : m = k + 1
    · subst e
      rw [sU_same, y_gn_ne (f := 11) (by decide), y_gn_ne (f := 15) (by decide)]
      have ih' : y_gn n τ k 13 (k + 1) = 0 ↔ τ 13 (k + 1) = 0 := by
        rw [ih]
        exact ⟨fun h => h.1, fun h => ⟨h, by omega⟩⟩
      constructor
      · intro hb
        have hd : ¬ (y_gn n τ k 13 (k + 1) ≠ 0 ∨ (τ 11 (k + 1) = n ∧ τ 15 (k + 1) = 0)) := fun z => by
          rw [decide_eq_true z] at hb
          exact absurd hb (by decide)
        refine ⟨ih'.mp ?_, fun z => hd (Or.inr z.2.2)⟩
        exact Decidable.byContradiction (fun z => hd (Or.inl z))
      · intro hh
        have hd : ¬ (y_gn n τ k 13 (k + 1) ≠ 0 ∨ (τ 11 (k + 1) = n ∧ τ 15 (k + 1) = 0)) := fun z => by
          rcases z with z | z
          · exact z (ih'.mpr hh.1)
          · exact hh.2 ⟨by omega, Nat.le_refl _, z⟩
        rw [decide_eq_false hd]
        rfl
    · rw [sU_nei e, ih]
      constructor
      · exact fun z => ⟨z.1, fun y => z.2 ⟨y.1, by omega, y.2.2⟩⟩
      · exact fun z => ⟨z.1, fun y => z.2 ⟨y.1, by omega, y.2.2⟩⟩
def s_fall (σ : Nat → Nat → Nat) (n : Nat) : Nat → Nat → Nat := sU (sU (sU (sU (sU (sU (sU σ 1 n 0) 2 n 0) 6 n 0) 7 n 0) 9 n 0) 3 n 0) 8 n 0
def t_fall (τ : Nat → Nat → Nat) (n k : Nat) : Nat → Nat → Nat := y_gn n (sU (sU τ 0 n 0) 5 n 0) k
theorem s_fall_fn {n f : Nat} (h : f ≠ 1 ∧ f ≠ 2 ∧ f ≠ 6 ∧ f ≠ 7 ∧ f ≠ 9 ∧ f ≠ 3 ∧ f ≠ 8) : s_fall σ n f = σ f := by
  obtain ⟨h1, h2, h3, h4, h5, h6, h7⟩ := h
  unfold s_fall
  rw [sU_fn h7, sU_fn h6, sU_fn h5, sU_fn h4, sU_fn h3, sU_fn h2, sU_fn h1]
theorem s_fall_ne {n f k : Nat} (h : k ≠ n) : s_fall σ n f k = σ f k := by
  unfold s_fall
  rw [sU_nei h, sU_nei h, sU_nei h, sU_nei h, sU_nei h, sU_nei h, sU_nei h]
theorem t_fall_fn {n f k : Nat} (h : f ≠ 13 ∧ f ≠ 0 ∧ f ≠ 5) : t_fall τ n k f = τ f := by
  unfold t_fall
  rw [y_gn_fn h.1, sU_fn h.2.2, sU_fn h.2.1]
theorem t_fall_ne {n f k j : Nat} (h : f ≠ 13) (hj : j ≠ n) : t_fall τ n k f j = τ f j := by
  unfold t_fall
  rw [y_gn_ne h, sU_nei hj, sU_nei hj]
theorem t_fall13 {n m k : Nat} : t_fall τ n k 13 m = 0 ↔ (τ 13 m = 0 ∧ ¬ (1 ≤ m ∧ m ≤ k ∧ τ 11 m = n ∧ τ 15 m = 0)) := by
  unfold t_fall
  rw [gn13, sU_nef (by decide), sU_nef (by decide), sU_nef (by decide), sU_nef (by decide), sU_nef (by decide), sU_nef (by decide)]
theorem t_fall_wait {n m k j : Nat} (hj : j ≠ n) : y_wait (t_fall τ n k) j m = y_wait τ j m := by
  unfold y_wait
  rw [t_fall_fn (f := 11) (by decide), t_fall_fn (f := 15) (by decide)]
  refine decide_eq_decide.mpr ⟨fun z => ⟨z.1, z.2.1, (t_fall13.mp z.2.2).1⟩, fun z => ⟨z.1, z.2.1, t_fall13.mpr ⟨z.2.2, fun y => hj (z.1.symm.trans y.2.2.1)⟩⟩⟩
theorem t_fall_wait0 {n m k : Nat} (h1 : 1 ≤ m) (h2 : m ≤ k) : y_wait (t_fall τ n k) n m = false := by
  unfold y_wait
  rw [t_fall_fn (f := 11) (by decide), t_fall_fn (f := 15) (by decide)]
  exact decide_eq_false (fun z => (t_fall13.mp z.2.2).2 ⟨h1, h2, z.1, z.2.1⟩)
theorem t_fall_qd {n k j : Nat} (hj : j ≠ n) : ∀ i, y_qd (t_fall τ n k) j i = y_qd τ j i
  | 0 => rfl
  | i + 1 => by rw [y_qd_s, y_qd_s, t_fall_qd hj i, t_fall_wait hj]
theorem t_fall_qd0 {n k : Nat} : ∀ i, i ≤ k → y_qd (t_fall τ n k) n i = 0
  | 0, _ => rfl
  | i + 1, h => by
    rw [y_qd_s, t_fall_qd0 i (by omega), t_fall_wait0 (by omega) h]
    rfl
theorem Sim.fall (h : Sim c σ τ) {n : Nat} (hn : n < 5) : Sim c (s_fall σ n) (t_fall τ n (τ 10 0)) := by
  obtain ⟨⟨hbX, hbY, h16, h16'⟩, hM, hIN, hRN, hRQ, hRM⟩ := h
  have t_ : ∀ f, f ≠ 13 ∧ f ≠ 0 ∧ f ≠ 5 → t_fall τ n (τ 10 0) f = τ f := fun f hf => t_fall_fn hf
  have e2 := t_ 2 (by decide)
  have e7 := t_ 7 (by decide)
  have e10 := t_ 10 (by decide)
  have e11 := t_ 11 (by decide)
  have e12 := t_ 12 (by decide)
  have e14 := t_ 14 (by decide)
  have e15 := t_ 15 (by decide)
  have e16 := t_ 16 (by decide)
  have e18 := t_ 18 (by decide)
  have e20 := t_ 20 (by decide)
  have e21 := t_ 21 (by decide)
  have x0 : t_fall τ n (τ 10 0) 0 n = 0 := by
    unfold t_fall
    rw [y_gn_ne (by decide), sU_nef (by decide), sU_same]
  have x5 : t_fall τ n (τ 10 0) 5 n = 0 := by
    unfold t_fall
    rw [y_gn_ne (by decide), sU_same]
  have z1 : s_fall σ n 1 n = 0 := by
    unfold s_fall
    rw [sU_nef (by decide), sU_nef (by decide), sU_nef (by decide), sU_nef (by decide), sU_nef (by decide), sU_nef (by decide), sU_same]
  have z9 : s_fall σ n 9 n = 0 := by
    unfold s_fall
    rw [sU_nef (by decide), sU_nef (by decide), sU_same]
  have z3 : s_fall σ n 3 n = 0 := by
    unfold s_fall
    rw [sU_nef (by decide), sU_same]
  have z8 : s_fall σ n 8 n = 0 := by
    unfold s_fall
    rw [sU_same]
  refine ⟨⟨?_, ?_, by rw [e16]; exact h16, by rw [e16]; exact h16'⟩, ?_, ?_, ?_, ?_, ?_⟩
  · exact bX_sU (bX_sU (bX_sU (bX_sU (bX_sU (bX_sU (bX_sU hbX (by decide)) (by decide)) (by decide)) (by decide)) (by decide)) (by decide)) (by decide)
  · exact bY_gn (bY_sU (bY_sU hbY (by decide)) (by decide)) _
  · obtain ⟨m1, m2, m3⟩ := hM
    unfold InvM cntN
    rw [e10, e14, e15, e16, e18, e20, e21]
    exact ⟨m1, fun m hm => ⟨(m2 m hm).1, t_fall13.mpr ⟨(m2 m hm).2, by omega⟩⟩, m3⟩
  · intro k hk
    have := hIN k hk
    unfold cntB
    rw [e2, t_ 6 (by decide), e7, e10, e15, e14, e16, t_ 9 (by decide), t_ 4 (by decide)]
    refine ⟨this.1, fun hu => this.2.1 ?_, this.2.2⟩
    by_cases hkn : k = n
    · subst hkn
      exact absurd x0 hu
    · rw [t_fall_ne (by decide) hkn] at hu
      exact hu
  · intro k hk
    obtain ⟨a, b, d, e, f⟩ := hRN k hk
    rw [s_fall_fn (f := 5) (by decide), s_fall_fn (f := 4) (by decide), s_fall_fn (f := 30 + k) (by omega), t_ 1 (by decide), t_ 9 (by decide), t_ 8 (by decide), t_ 3 (by decide), t_ 4 (by decide), t_ 6 (by decide), e2]
    by_cases hkn : k = n
    · subst hkn
      rw [z1, z8, z9, x0, x5]
      exact ⟨⟨Iff.rfl, a.2.1, rfl, by decide⟩, b, fun r hr => absurd hr (by omega), fun z => absurd rfl z, fun _ _ z => absurd rfl z⟩
    · rw [s_fall_ne (f := 1) hkn, s_fall_ne (f := 8) hkn, s_fall_ne (f := 9) hkn, s_fall_ne (f := 6) hkn, s_fall_ne (f := 7) hkn, s_fall_ne (f := 2) hkn, t_fall_ne (f := 0) (by decide) hkn, t_fall_ne (f := 5) (by decide) hkn]
      refine ⟨a, b, fun r hr => ?_, fun hu q => ?_, fun j hj u1 u2 z => ?_⟩
      · obtain ⟨d1, d2, d3, d4⟩ := d r hr
        exact ⟨d1, d2, d3, Rg_keep (by rw [s_fall_fn (by decide)]) (by rw [s_fall_fn (by decide)]) (by rw [s_fall_fn (by decide)]) (by rw [s_fall_fn (by decide)]) (by rw [s_fall_fn (by decide)]) (s_fall_fn (by omega)) (s_fall_fn (by omega)) e10 e14 e15 (by rw [t_ _ (by decide)]) (by rw [t_ _ (by decide)]) (by rw [t_ _ (by decide)]) (fun k _ => by rw [t_ _ (by decide)]) (by rw [t_ _ (by decide)]) d4⟩
      · rw [y_has_keep e2 e7 e10 e14 e15]
        exact e hu q
      · by_cases hjn : j = n
        · subst hjn
          exact absurd z1 u2
        · rw [s_fall_ne hjn] at u2 ⊢
          exact f j hj u1 u2 z
  · intro k hk
    have := hRQ k hk
    rw [e10, s_fall_fn (f := 20 + k) (by omega)]
    by_cases hkn : k = n
    · subst hkn
      rw [z3, t_fall_qd0 _ (Nat.le_refl _)]
      exact ⟨rfl, fun i hi => absurd hi (by omega)⟩
    · rw [s_fall_ne hkn, t_fall_qd hkn]
      refine ⟨this.1, fun i hi => ?_⟩
      rw [t_fall_wait hkn, t_fall_qd hkn]
      exact this.2 i hi
  · exact RelM_keep (s_fall_fn (by decide)) (s_fall_fn (by decide)) (s_fall_fn (by decide)) (s_fall_fn (by decide)) (s_fall_fn (by decide)) e10 e11 e12 e14 e15 e16 hRM
theorem Sim.crash (h : Sim c σ τ) {n : Nat} (hn : n < 5) : (a_crash σ n).1 = (b_crash τ n).1 ∧ Sim (c + 1) (a_crash σ n).2 (b_crash τ n).2 := by
  have hN := h.2.2.2.1 n hn
  unfold a_crash b_crash
  by_cases h0 : σ 1 n = 0
  · rw [if_pos h0, if_pos (hN.1.1.mp h0)]
    exact ⟨rfl, h.mono⟩
  · rw [if_neg h0, if_neg (fun z => h0 (hN.1.1.mpr z))]
    refine ⟨rfl, ?_⟩
    have hf := ((h.untok hn h0).fall hn).mono
    have e : y_untok τ n 10 0 = τ 10 0 := sU_nef (by decide)
    rw [e] at hf
    exact hf
end CRASH
