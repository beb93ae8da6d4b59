/-! 45.again: the requests of a ring; sending again keeps the relation -/
section AGAIN
variable {c : Nat} {σ τ : Nat → Nat → Nat}
/-- the requests of a ring that somebody is in -/
theorem Sim.wanted (h : Sim c σ τ) {n r v : Nat} (hn : n < 5) (hr : σ 1 n = r + 1) (hv : v < 2 ^ 49) (hv0 : v.testBit 0 = false) : Sim c (sU σ 14 r v) (sU τ 21 (τ 2 n) v) := by
  have s : ∀ f, f ≠ 14 → sU σ 14 r v f = σ f := fun f hf => sU_fn hf
  have t : ∀ f, f ≠ 21 → sU τ 21 (τ 2 n) v f = τ f := fun f hf => sU_fn hf
  refine ⟨⟨bX_sU h.1.1 hv, bY_sU h.1.2.1 hv, by rw [t 16 (by decide)]; exact h.1.2.2.1, by rw [t 16 (by decide)]; exact h.1.2.2.2⟩, ?_, InvN_keep (t _ (by decide)) (t _ (by decide)) (t _ (by decide)) (t _ (by decide)) (t _ (by decide)) (t _ (by decide)) (t _ (by decide)) (t _ (by decide)) (t _ (by decide)) (t _ (by decide)) h.2.2.1, fun k hk => ?_, RelQ_keep (s _ (by decide)) (fun n hn => s _ (by omega)) (t _ (by decide)) (t _ (by decide)) (t _ (by decide)) (t _ (by decide)) h.2.2.2.2.1, RelM_keep (s _ (by decide)) (s _ (by decide)) (s _ (by decide)) (s _ (by decide)) (s _ (by decide)) (t _ (by decide)) (t _ (by decide)) (t _ (by decide)) (t _ (by decide)) (t _ (by decide)) (t _ (by decide)) h.2.2.2.2.2⟩
  · obtain ⟨m1, m2, m3, m4, m5, m6, m7⟩ := h.2.1
    have hg := (h.2.2.1 n hn).1.2.1
    unfold InvM cntN
    rw [t 10 (by decide), t 13 (by decide), t 14 (by decide), t 15 (by decide), t 16 (by decide), t 18 (by decide), t 20 (by decide)]
    refine ⟨m1, m2, m3, m4, fun g hg' => ⟨(m5 g hg').1, ?_, (m5 g hg').2.2⟩, fun g => ?_, m7⟩
    · rw [sU_nei (by omega)]
      exact (m5 g hg').2.1
    · by_cases e : g = τ 2 n
      · subst e
        rw [sU_same]
        exact hv0
      · rw [sU_nei e]
        exact m6 g
  have hN := h.2.2.2.1 n hn
  obtain ⟨a, b, d, e, f⟩ := h.2.2.2.1 k hk
  rw [s 1 (by decide), s 5 (by decide), s 8 (by decide), s 9 (by decide), s 4 (by decide), s 6 (by decide), s 7 (by decide), s 2 (by decide), s (30 + k) (by omega), t 0 (by decide), t 1 (by decide), t 5 (by decide), t 9 (by decide), t 8 (by decide), t 3 (by decide), t 4 (by decide), t 6 (by decide), t 2 (by decide)]
  refine ⟨a, b, fun r1 hr1 => ?_, fun hu q => ?_, f⟩
  · obtain ⟨d1, d2, d3, d4⟩ := d r1 hr1
    refine ⟨d1, d2, d3, ?_⟩
    by_cases hrr : r1 = r
    · subst hrr
      have g1 : τ 2 k = τ 2 n := d4.1.symm.trans ((hN.2.2.1 r1 hr).2.2.2.1)
      obtain ⟨h0, h1, h2, h3, h4, h5, h6⟩ := d4
      refine ⟨by rw [s _ (by decide)]; exact h0, by rw [s _ (by decide), t _ (by decide)]; exact h1, by rw [s _ (by decide), t _ (by decide)]; exact h2, by rw [s _ (by decide), t _ (by decide)]; exact h3, by rw [g1, sU_same, sU_same], fun k hk => by rw [s _ (by omega), t _ (by decide)]; exact h5 k hk, fun q a1 a2 => ?_⟩
      rw [s _ (by omega), y_msg_keep (t _ (by decide)) (t _ (by decide)) (t _ (by decide))]
      rw [s _ (by decide)] at a2
      exact h6 q a1 a2
    · have g2 : τ 2 k ≠ τ 2 n := fun z => by
        have := (h.2.2.2.1 n hn).2.2.2.2 k hk (by omega) (by omega) z.symm
        omega
      exact Rg_keep (by rw [s _ (by decide)]) (by rw [s _ (by decide)]) (by rw [s _ (by decide)]) (by rw [s _ (by decide)]) (sU_nei hrr) (s _ (by omega)) (s _ (by omega)) (t _ (by decide)) (t _ (by decide)) (t _ (by decide)) (by rw [t _ (by decide)]) (by rw [t _ (by decide)]) (by rw [t _ (by decide)]) (fun k _ => by rw [t _ (by decide)]) (sU_nei g2) d4
  · rw [y_has_keep (t _ (by decide)) (t _ (by decide)) (t _ (by decide)) (t _ (by decide)) (t _ (by decide))]
    exact e hu q
theorem off_lt {a q : Nat} (h : a < 2 ^ 49) : a ^^^ (a &&& 2 ^ q) < 2 ^ 49 := Nat.xor_lt_two_pow h (Nat.lt_of_le_of_lt Nat.and_le_left h)
theorem off_0 {a q : Nat} (h : a.testBit 0 = false) : (a ^^^ (a &&& 2 ^ q)).testBit 0 = false := by
  rw [Nat.testBit_xor, Nat.testBit_and, h]
  rfl
theorem y_bcast_fn {n m f : Nat} (h5 : f ≠ 5) (h7 : f ≠ 7) : y_bcast τ n m f = τ f := by
  unfold y_bcast
  rw [y_bc_fn h5 h7, sU_fn h7]
theorem Sim.off (h : Sim c σ τ) {n r q : Nat} (hn : n < 5) (hr : σ 1 n = r + 1) : Sim c (x_offreq σ r q) (y_off τ (τ 2 n) q) := by
  have e : σ 14 r = τ 21 (τ 2 n) := ((h.2.2.2.1 n hn).2.2.1 r hr).2.2.2.2.2.2.2.1
  unfold x_offreq y_off
  rw [e]
  exact h.wanted hn hr (off_lt (h.1.2.1 21 _)) (off_0 (h.2.1.2.2.2.2.2.1 _))
theorem Sim.rq (h : Sim c σ τ) {n r : Nat} (hn : n < 5) (hr : σ 1 n = r + 1) : ∀ k, k ≤ 48 → Sim c (x_rq n r σ k).1 (y_rq n (τ 2 n) τ k).1 ∧ (x_rq n r σ k).2 = (y_rq n (τ 2 n) τ k).2 ∧ (x_rq n r σ k).1 1 = σ 1 ∧ (y_rq n (τ 2 n) τ k).1 2 = τ 2
  | 0, _ => ⟨h, rfl, rfl, rfl⟩
  | k + 1, hk => by
    obtain ⟨i1, i2, i3, i4⟩ := h.rq hn hr k (by omega)
    have hr' : (x_rq n r σ k).1 1 n = r + 1 := by rw [i3]; exact hr
    have e14 := ((i1.2.2.2.1 n hn).2.2.1 r hr').2.2.2.2.2.2.2.1
    have eb := (i1.2.2.2.1 n hn).2.2.2.1 (by omega) (k + 1)
    rw [decide_eq_true (show 1 ≤ k + 1 by omega), Bool.true_and] at eb
    have e2 : (y_rq n (τ 2 n) τ k).1 2 n = τ 2 n := by rw [i4]
    rw [e2] at e14
    rw [x_rq_s, y_rq_s, e14, eb]
    by_cases hz : ((y_rq n (τ 2 n) τ k).1 21 (τ 2 n)).testBit (k + 1) = true ∧ y_has (y_rq n (τ 2 n) τ k).1 n (k + 1) = true
    · rw [if_pos hz, if_pos hz]
      have o := i1.off hn hr' (q := k + 1)
      rw [e2] at o
      have f2 : y_off (y_rq n (τ 2 n) τ k).1 (τ 2 n) (k + 1) 2 = (y_rq n (τ 2 n) τ k).1 2 := sU_fn (by decide)
      have em : y_msg (y_off (y_rq n (τ 2 n) τ k).1 (τ 2 n) (k + 1)) (τ 2 n) (k + 1) = y_msg (y_rq n (τ 2 n) τ k).1 (τ 2 n) (k + 1) := y_msg_keep (sU_fn (by decide)) (sU_fn (by decide)) (sU_fn (by decide))
      have hp := (of_decide_eq_true hz.2).1
      rw [e2] at hp
      refine ⟨o.bcast hn (by omega) (by omega) (by rw [f2, e2]) (by rw [em]; exact hp), by rw [i2], ?_, ?_⟩
      · refine funext fun j => ?_
        show x_bcast _ n (k + 1) 1 j = _
        rw [x_bcast_ne (by decide) (by decide), ← i3]
        exact sU_nef (by decide)
      · show y_bcast _ n _ 2 = _
        rw [y_bcast_fn (by decide) (by decide), f2, i4]
    · rw [if_neg hz, if_neg hz]
      exact ⟨i1, i2, i3, i4⟩
end AGAIN
