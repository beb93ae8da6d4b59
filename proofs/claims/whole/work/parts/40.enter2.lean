/-! 40.enter2: a node enters the newest ring -/
section ENTER2
variable {c u : Nat} {σ τ : Nat → Nat → Nat}
theorem y_cl_s {n k : Nat} : y_cl n τ (k + 1) = sU (y_cl n τ k) 7 (49 * n + (k + 1)) 0 := rfl
theorem y_cl_fn {n f : Nat} (h : f ≠ 7) : ∀ k, y_cl n τ k f = τ f
  | 0 => rfl
  | k + 1 => by rw [y_cl_s, sU_fn h, y_cl_fn h k]
theorem y_cl_at {n m : Nat} (h1 : 1 ≤ m) : ∀ k, m ≤ k → y_cl n τ k 7 (49 * n + m) = 0
  | 0, h => by omega
  | k + 1, h => by
    rw [y_cl_s]
    by_cases e : m = k + 1
    · subst e
      rw [sU_same]
    · rw [sU_nei (by omega), y_cl_at h1 k (by omega)]
theorem y_cl_ne {n j : Nat} : ∀ k, (j < 49 * n + 1 ∨ 49 * n + k < j) → y_cl n τ k 7 j = τ 7 j
  | 0, _ => rfl
  | k + 1, h => by rw [y_cl_s, sU_nei (by omega), y_cl_ne k (by omega)]
def s_in (σ : Nat → Nat → Nat) (n u : Nat) : Nat → Nat → Nat := sU (sU (sU (sU (sU (sU σ 1 n 0) 2 n 0) 6 n 0) 7 n 0) 9 n 0) 1 n (u + 1)
def t_in (τ : Nat → Nat → Nat) (n g : Nat) : Nat → Nat → Nat := y_clean (sU (sU τ 0 n 1) 2 n g) n
theorem s_in_fn {n f : Nat} (h : f ≠ 1 ∧ f ≠ 2 ∧ f ≠ 6 ∧ f ≠ 7 ∧ f ≠ 9) : s_in σ n u f = σ f := by
  obtain ⟨h1, h2, h3, h4, h5⟩ := h
  unfold s_in
  rw [sU_fn h1, sU_fn h5, sU_fn h4, sU_fn h3, sU_fn h2, sU_fn h1]
theorem s_in_ne {n f k : Nat} (h : k ≠ n) : s_in σ n u f k = σ f k := by
  unfold s_in
  rw [sU_nei h, sU_nei h, sU_nei h, sU_nei h, sU_nei h, sU_nei h]
theorem t_in_fn {n g f : Nat} (h : f ≠ 0 ∧ f ≠ 2 ∧ f ≠ 3 ∧ f ≠ 4 ∧ f ≠ 6 ∧ f ≠ 7) : t_in τ n g f = τ f := by
  obtain ⟨h1, h2, h3, h4, h5, h6⟩ := h
  unfold t_in y_clean
  rw [sU_fn h5, sU_fn h4, sU_fn h3, y_cl_fn h6, sU_fn h2, sU_fn h1]
theorem t_in_ne {n g f k : Nat} (h : f ≠ 7) (hk : k ≠ n) : t_in τ n g f k = τ f k := by
  unfold t_in y_clean
  rw [sU_nei hk, sU_nei hk, sU_nei hk, y_cl_fn h, sU_nei hk, sU_nei hk]
theorem t_in7 {n g k m : Nat} (hm1 : 1 ≤ m) (hm : m ≤ 48) (hk : k ≠ n) : t_in τ n g 7 (49 * k + m) = τ 7 (49 * k + m) := by
  unfold t_in y_clean
  rw [sU_nef (by decide), sU_nef (by decide), sU_nef (by decide), y_cl_ne 48 (by omega), sU_nef (by decide), sU_nef (by decide)]
theorem t_in7n {n g m : Nat} (hm1 : 1 ≤ m) (hm : m ≤ 48) : t_in τ n g 7 (49 * n + m) = 0 := by
  unfold t_in y_clean
  rw [sU_nef (by decide), sU_nef (by decide), sU_nef (by decide), y_cl_at hm1 48 hm]
theorem t_in_n {n g : Nat} : t_in τ n g 0 n = 1 ∧ t_in τ n g 2 n = g ∧ t_in τ n g 3 n = 0 ∧ t_in τ n g 4 n = 0 ∧ t_in τ n g 6 n = 0 := by
  unfold t_in y_clean
  refine ⟨?_, ?_, ?_, ?_, ?_⟩
  · rw [sU_nef (by decide), sU_nef (by decide), sU_nef (by decide), y_cl_fn (by decide), sU_nef (by decide), sU_same]
  · rw [sU_nef (by decide), sU_nef (by decide), sU_nef (by decide), y_cl_fn (by decide), sU_same]
  · rw [sU_nef (by decide), sU_nef (by decide), sU_same]
  · rw [sU_nef (by decide), sU_same]
  · rw [sU_same]
theorem s_in_n {n : Nat} : s_in σ n u 1 n = u + 1 ∧ s_in σ n u 2 n = 0 ∧ s_in σ n u 6 n = 0 ∧ s_in σ n u 7 n = 0 ∧ s_in σ n u 9 n = 0 := by
  unfold s_in
  refine ⟨?_, ?_, ?_, ?_, ?_⟩
  · rw [sU_same]
  · rw [sU_nef (by decide), sU_nef (by decide), sU_nef (by decide), sU_nef (by decide), sU_same]
  · rw [sU_nef (by decide), sU_nef (by decide), sU_nef (by decide), sU_same]
  · rw [sU_nef (by decide), sU_nef (by decide), sU_same]
  · rw [sU_nef (by decide), sU_same]
theorem New.enter (h : New c σ τ u) (hu : u < 6) {n : Nat} (hn : n < 5) : New c (s_in σ n u) (t_in τ n (τ 16 0)) u := by
  obtain ⟨⟨⟨hbX, hbY, h16, h16'⟩, hM, hIN, hRN, hRQ, hRM⟩, hR, h18, hS⟩ := h
  have t_ : ∀ f, f ≠ 0 ∧ f ≠ 2 ∧ f ≠ 3 ∧ f ≠ 4 ∧ f ≠ 6 ∧ f ≠ 7 → t_in τ n (τ 16 0) f = τ f := fun f hf => t_in_fn hf
  have e10 := t_ 10 (by decide)
  have e11 := t_ 11 (by decide)
  have e12 := t_ 12 (by decide)
  have e13 := t_ 13 (by decide)
  have e14 := t_ 14 (by decide)
  have e15 := t_ 15 (by decide)
  have e16 := t_ 16 (by decide)
  have e17 := t_ 17 (by decide)
  have e18 := t_ 18 (by decide)
  have e19 := t_ 19 (by decide)
  have e20 := t_ 20 (by decide)
  have e21 := t_ 21 (by decide)
  have b10 : τ 10 0 < 49 := hbY 10 0
  obtain ⟨y0, y2, y3, y4, y6⟩ := t_in_n (τ := τ) (n := n) (g := τ 16 0)
  obtain ⟨x1, x2, x6, x7, x9⟩ := s_in_n (σ := σ) (n := n) (u := u)
  have rk : ∀ r g, Rg σ τ r g → Rg (s_in σ n u) (t_in τ n (τ 16 0)) r g := fun r g hh => Rg_keep (by rw [s_in_fn (by decide)]) (by rw [s_in_fn (by decide)]) (by rw [s_in_fn (by decide)]) (by rw [s_in_fn (by decide)]) (by rw [s_in_fn (by decide)]) (s_in_fn (by omega)) (s_in_fn (by omega)) e10 e14 e15 (by rw [e17]) (by rw [e18]) (by rw [e19]) (fun k _ => by rw [e20]) (by rw [e21]) hh
  have hS' : ∀ k, k < 5 → s_in σ n u 1 k ≠ 0 → t_in τ n (τ 16 0) 2 k = τ 16 0 → s_in σ n u 1 k = u + 1 := by
    intro k hk u1 u2
    by_cases hkn : k = n
    · subst hkn
      exact x1
    · rw [s_in_ne hkn] at u1 ⊢
      rw [t_in_ne (by decide) hkn] at u2
      exact hS k hk u1 u2
  have rev : ∀ k, k < 5 → σ 1 k = u + 1 → τ 2 k = τ 16 0 := fun k hk z => by
    have := ((hRN k hk).2.2.1 u z).2.2.2.1
    rw [← this, hR.1]
  refine ⟨⟨⟨?_, ?_, by rw [e16]; exact h16, by rw [e16]; exact h16'⟩, InvM_keep e10 e13 e14 e15 e16 e18 e20 e21 hM, ?_, ?_, ?_, ?_⟩, by rw [e16]; exact rk u _ hR, by rw [e16, e18]; exact h18, by rw [e16]; exact hS'⟩
  · exact bX_sU (bX_sU (bX_sU (bX_sU (bX_sU (bX_sU hbX (by decide)) (by decide)) (by decide)) (by decide)) (by decide)) (show u + 1 < 7 by omega)
  · exact bY_clean (bY_sU (bY_sU hbY (by decide)) (hbY 16 0))
  · intro k hk
    have hk' := hIN k hk
    unfold cntB
    rw [e10, e14, e15, e16, t_ 9 (by decide)]
    by_cases hkn : k = n
    · subst hkn
      rw [y2, y4, y6]
      refine ⟨⟨h16, Nat.le_refl _, by decide⟩, fun _ m a1 a2 a3 => absurd (t_in7n a1 a2) a3, Nat.le_trans hk'.2.2 ?_⟩
      unfold cntB
      refine cn_mono _ (fun m a1 a2 hd => ?_)
      have hd := of_decide_eq_true hd
      have hm := hM.1 m a1 a2 hd.1
      refine decide_eq_true ⟨hd.1, Or.inl ?_⟩
      have hlt : τ 14 m ≠ τ 16 0 := fun z => by
        have := hm.2.2
        rw [z, h18] at this
        exact hd.1 (by omega)
      omega
    · rw [t_in_ne (f := 0) (by decide) hkn, t_in_ne (f := 2) (by decide) hkn, t_in_ne (f := 4) (by decide) hkn, t_in_ne (f := 6) (by decide) hkn]
      refine ⟨hk'.1, fun z m a1 a2 a3 => hk'.2.1 z m a1 a2 ?_, hk'.2.2⟩
      rw [t_in7 a1 a2 hkn] at a3
      exact a3
  · intro k hk
    obtain ⟨a, b, d, e, f⟩ := hRN k hk
    rw [s_in_fn (f := 5) (by decide), s_in_fn (f := 8) (by decide), s_in_fn (f := 4) (by decide), s_in_fn (f := 30 + k) (by omega), t_ 1 (by decide), t_ 5 (by decide), t_ 9 (by decide), t_ 8 (by decide)]
    by_cases hkn : k = n
    · subst hkn
      rw [x1, x2, x6, x7, x9, y0, y2, y3, y4, y6]
      refine ⟨⟨⟨fun z => absurd z (by omega), fun z => absurd z (by decide)⟩, a.2.1, a.2.2.1, by decide⟩, b, fun r hr => ?_, fun _ q => ?_, fun j hj _ u2 z => ?_⟩
      · have : r = u := by omega
        rw [this]
        exact ⟨rfl, rfl, rfl, rk u _ hR⟩
      · rw [Nat.zero_testBit]
        have : y_has (t_in τ k (τ 16 0)) k q = false := by
          unfold y_has
          refine decide_eq_false (fun z => z.2 (t_in7n z.1 ?_))
          have := y_msg_lt (r := t_in τ k (τ 16 0) 2 k) (q := q) (bY_clean (n := k) (bY_sU (f := 2) (i := k) (bY_sU (f := 0) (i := k) hbY (show 1 < 2 by decide)) (hbY 16 0)))
          exact Nat.le_of_lt_succ this
        rw [this, Bool.and_false]
      · exact (hS' j hj u2 z.symm).symm
    · rw [s_in_ne (f := 1) hkn, s_in_ne (f := 2) hkn, s_in_ne (f := 6) hkn, s_in_ne (f := 7) hkn, s_in_ne (f := 9) hkn, t_in_ne (f := 0) (by decide) hkn, t_in_ne (f := 2) (by decide) hkn, t_in_ne (f := 3) (by decide) hkn, t_in_ne (f := 4) (by decide) hkn, t_in_ne (f := 6) (by decide) hkn]
      refine ⟨a, b, fun r hr => ?_, fun hu q => ?_, fun j hj u1 u2 z => ?_⟩
      · obtain ⟨d1, d2, d3, d4⟩ := d r hr
        exact ⟨d1, d2, d3, rk r _ d4⟩
      · rw [e hu q]
        refine congrArg (fun x => decide (1 ≤ q) && x) ?_
        unfold y_has
        rw [t_in_ne (f := 2) (by decide) hkn, y_msg_keep e10 e14 e15]
        have hlt := y_msg_lt (r := τ 2 k) (q := q) hbY
        refine decide_eq_decide.mpr ⟨fun z => ⟨z.1, ?_⟩, fun z => ⟨z.1, ?_⟩⟩
        · rw [t_in7 z.1 (by omega) hkn]
          exact z.2
        · rw [← t_in7 (τ := τ) (n := n) (g := τ 16 0) z.1 (by omega) hkn]
          exact z.2
      · by_cases hjn : j = n
        · subst hjn
          rw [x1]
          rw [y2] at z
          exact hS k hk u1 z
        · rw [s_in_ne hjn] at u2 ⊢
          rw [t_in_ne (by decide) hjn] at z
          exact f j hj u1 u2 z
  · exact RelQ_keep (s_in_fn (by decide)) (fun k hk => s_in_fn (by omega)) e10 e11 e13 e15 hRQ
  · exact RelM_keep (s_in_fn (by decide)) (s_in_fn (by decide)) (s_in_fn (by decide)) (s_in_fn (by decide)) (s_in_fn (by decide)) e10 e11 e12 e14 e15 e16 hRM
end ENTER2
