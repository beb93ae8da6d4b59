/-! 46.mark: a node's mark, what it lacks, the least mark -/
section MARK
variable {c : Nat} {σ τ : Nat → Nat → Nat}
theorem Sim.mark1 (h : Sim c σ τ) {n r v : Nat} (hn : n < 5) (hr : σ 1 n = r + 1) (hv : v < 49) : Sim c (sU σ (50 + r) n v) (sU τ 20 (5 * τ 2 n + n) v) := by
  have hr6 : r < 6 := by have : σ 1 n < 7 := h.1.1 1 n; omega
  have s : ∀ f, f ≠ 50 + r → sU σ (50 + r) n v f = σ f := fun f hf => sU_fn hf
  have t : ∀ f, f ≠ 20 → sU τ 20 (5 * τ 2 n + n) v f = τ f := fun f hf => sU_fn hf
  refine ⟨⟨bX_sU h.1.1 (by rw [Bx_k hr6]; exact hv), bY_sU h.1.2.1 hv, by rw [t 16 (by decide)]; exact h.1.2.2.1, by rw [t 16 (by decide)]; exact h.1.2.2.2⟩, ?_, InvN_keep (t _ (by decide)) (t _ (by decide)) (t _ (by decide)) (t _ (by decide)) (t _ (by decide)) (t _ (by decide)) (t _ (by decide)) (t _ (by decide)) (t _ (by decide)) (t _ (by decide)) h.2.2.1, fun k hk => ?_, RelQ_keep (s _ (by omega)) (fun n hn => s _ (by omega)) (t _ (by decide)) (t _ (by decide)) (t _ (by decide)) (t _ (by decide)) h.2.2.2.2.1, RelM_keep (s _ (by omega)) (s _ (by omega)) (s _ (by omega)) (s _ (by omega)) (s _ (by omega)) (t _ (by decide)) (t _ (by decide)) (t _ (by decide)) (t _ (by decide)) (t _ (by decide)) (t _ (by decide)) h.2.2.2.2.2⟩
  · obtain ⟨m1, m2, m3, m4, m5, m6, m7⟩ := h.2.1
    have hg := (h.2.2.1 n hn).1.2.1
    unfold InvM cntN
    rw [t 10 (by decide), t 13 (by decide), t 14 (by decide), t 15 (by decide), t 16 (by decide), t 18 (by decide), t 21 (by decide)]
    refine ⟨m1, m2, m3, m4, fun g hg' => ⟨(m5 g hg').1, (m5 g hg').2.1, fun k hk => ?_⟩, m6, m7⟩
    rw [sU_nei (by omega)]
    exact (m5 g hg').2.2 k hk
  have hN := h.2.2.2.1 n hn
  obtain ⟨a, b, d, e, f⟩ := h.2.2.2.1 k hk
  rw [s 1 (by omega), s 5 (by omega), s 8 (by omega), s 9 (by omega), s 4 (by omega), s 6 (by omega), s 7 (by omega), s 2 (by omega), s (30 + k) (by omega), t 0 (by decide), t 1 (by decide), t 5 (by decide), t 9 (by decide), t 8 (by decide), t 3 (by decide), t 4 (by decide), t 6 (by decide), t 2 (by decide)]
  refine ⟨a, b, fun r1 hr1 => ?_, fun hu q => ?_, f⟩
  · obtain ⟨d1, d2, d3, d4⟩ := d r1 hr1
    have hr16 : r1 < 6 := by have : σ 1 k < 7 := h.1.1 1 k; omega
    refine ⟨d1, d2, d3, ?_⟩
    by_cases hrr : r1 = r
    · subst hrr
      have g1 : τ 2 k = τ 2 n := d4.1.symm.trans ((hN.2.2.1 r1 hr).2.2.2.1)
      obtain ⟨h0, h1, h2, h3, h4, h5, h6⟩ := d4
      refine ⟨by rw [s _ (by omega)]; exact h0, by rw [s _ (by omega), t _ (by decide)]; exact h1, by rw [s _ (by omega), t _ (by decide)]; exact h2, by rw [s _ (by omega), t _ (by decide)]; exact h3, by rw [s _ (by omega), t _ (by decide)]; exact h4, fun j hj => ?_, fun q a1 a2 => ?_⟩
      · by_cases ej : j = n
        · subst ej
          rw [g1, sU_same, sU_same]
        · rw [sU_nei ej, sU_nei (by omega)]
          exact h5 j hj
      · rw [s _ (by omega), y_msg_keep (t _ (by decide)) (t _ (by decide)) (t _ (by decide))]
        rw [s _ (by omega)] at a2
        exact h6 q a1 a2
    · have g2 : τ 2 k ≠ τ 2 n := fun z => by
        have := (h.2.2.2.1 n hn).2.2.2.2 k hk (by omega) (by omega) z.symm
        omega
      exact Rg_keep (by rw [s _ (by omega)]) (by rw [s _ (by omega)]) (by rw [s _ (by omega)]) (by rw [s _ (by omega)]) (by rw [s _ (by omega)]) (s _ (by omega)) (s _ (by omega)) (t _ (by decide)) (t _ (by decide)) (t _ (by decide)) (by rw [t _ (by decide)]) (by rw [t _ (by decide)]) (by rw [t _ (by decide)]) (fun j hj => sU_nei (by omega)) (by rw [t _ (by decide)]) d4
  · rw [y_has_keep (t _ (by decide)) (t _ (by decide)) (t _ (by decide)) (t _ (by decide)) (t _ (by decide))]
    exact e hu q
theorem Sim.mk (h : Sim c σ τ) {n r : Nat} (hn : n < 5) (hr : σ 1 n = r + 1) : ∀ k, k ≤ 48 → Sim c (x_mk r n σ k) (y_mk n (τ 2 n) τ k) ∧ (∀ f, f ≠ 14 → x_mk r n σ k f = σ f) ∧ ∀ f, f ≠ 21 → y_mk n (τ 2 n) τ k f = τ f
  | 0, _ => ⟨h, fun _ _ => rfl, fun _ _ => rfl⟩
  | k + 1, hk => by
    obtain ⟨i1, i2, i3⟩ := h.mk hn hr k (by omega)
    have hr' : x_mk r n σ k 1 n = r + 1 := by rw [i2 1 (by decide)]; exact hr
    have e2 : y_mk n (τ 2 n) τ k 2 n = τ 2 n := by rw [i3 2 (by decide)]
    have e14 := ((i1.2.2.2.1 n hn).2.2.1 r hr').2.2.2.2.2.2.2.1
    rw [e2] at e14
    have eb := (i1.2.2.2.1 n hn).2.2.2.1 (by omega) (k + 1)
    rw [decide_eq_true (show 1 ≤ k + 1 by omega), Bool.true_and] at eb
    have ex : x_mk r n σ (k + 1) = if (x_mk r n σ k 2 n).testBit (k + 1) = true then x_mk r n σ k else sU (x_mk r n σ k) 14 r (x_mk r n σ k 14 r ||| 2 ^ (k + 1)) := rfl
    have ey : y_mk n (τ 2 n) τ (k + 1) = sU (y_mk n (τ 2 n) τ k) 21 (τ 2 n) (if y_has (y_mk n (τ 2 n) τ k) n (k + 1) = true then y_mk n (τ 2 n) τ k 21 (τ 2 n) else y_mk n (τ 2 n) τ k 21 (τ 2 n) ||| 2 ^ (k + 1)) := rfl
    rw [ex, ey, eb, e14]
    by_cases hz : y_has (y_mk n (τ 2 n) τ k) n (k + 1) = true
    · rw [if_pos hz, if_pos hz, sU_self]
      exact ⟨i1, i2, i3⟩
    · rw [if_neg hz, if_neg hz]
      have w := i1.wanted hn hr' (v := y_mk n (τ 2 n) τ k 21 (τ 2 n) ||| 2 ^ (k + 1)) (or_pow_lt (i1.1.2.1 21 _) (by omega)) (by
        rw [Nat.testBit_or, i1.2.1.2.2.2.2.2.1, Nat.testBit_two_pow, decide_eq_false (by omega)]
        rfl)
      rw [e2] at w
      exact ⟨w, fun f hf => by rw [sU_fn hf]; exact i2 f hf, fun f hf => by rw [sU_fn hf]; exact i3 f hf⟩
theorem Sim.ls (h : Sim c σ τ) {n r : Nat} (hn : n < 5) (hr : σ 1 n = r + 1) : ∀ k, k ≤ 5 → x_ls σ r k = y_ls τ (τ 2 n) k
  | 0, _ => rfl
  | k + 1, hk => by
    have g := ((h.2.2.2.1 n hn).2.2.1 r hr).2.2.2
    have ex : x_ls σ r (k + 1) = if (σ 11 r).testBit k = true then min (x_ls σ r k) (σ (50 + r) k) else x_ls σ r k := rfl
    have ey : y_ls τ (τ 2 n) (k + 1) = if (τ 19 (τ 2 n)).testBit k = true ∧ τ 20 (5 * τ 2 n + k) < y_ls τ (τ 2 n) k then τ 20 (5 * τ 2 n + k) else y_ls τ (τ 2 n) k := rfl
    rw [ex, ey, h.ls hn hr k (by omega), g.2.1, g.2.2.2.2.2.1 k (by omega)]
    by_cases hb : (τ 19 (τ 2 n)).testBit k = true
    · rw [if_pos hb]
      by_cases hl : τ 20 (5 * τ 2 n + k) < y_ls τ (τ 2 n) k
      · rw [if_pos ⟨hb, hl⟩]
        exact Nat.min_eq_right (by omega)
      · rw [if_neg (fun z => hl z.2)]
        exact Nat.min_eq_left (by omega)
    · rw [if_neg hb, if_neg (fun z => hb z.1)]
end MARK
