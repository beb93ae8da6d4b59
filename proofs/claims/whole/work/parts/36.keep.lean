/-! 36.keep: what stays when other fields change; place, deafen, drop -/
section KEEP
variable {c : Nat} {σ τ σ' τ' : Nat → Nat → Nat}
theorem sU_fn {σ : Nat → Nat → Nat} {g i v f : Nat} (h : f ≠ g) : sU σ g i v f = σ f := funext fun _ => sU_nef h
theorem InvM_keep (e10 : τ' 10 = τ 10) (e13 : τ' 13 = τ 13) (e14 : τ' 14 = τ 14) (e15 : τ' 15 = τ 15) (e16 : τ' 16 = τ 16) (e18 : τ' 18 = τ 18) (e20 : τ' 20 = τ 20) (e21 : τ' 21 = τ 21) (h : InvM τ) : InvM τ' := by
  unfold InvM cntN at *
  rw [e10, e13, e14, e15, e16, e18, e20, e21]
  exact h
theorem InvN_keep (e0 : τ' 0 = τ 0) (e2 : τ' 2 = τ 2) (e4 : τ' 4 = τ 4) (e6 : τ' 6 = τ 6) (e7 : τ' 7 = τ 7) (e9 : τ' 9 = τ 9) (e10 : τ' 10 = τ 10) (e14 : τ' 14 = τ 14) (e15 : τ' 15 = τ 15) (e16 : τ' 16 = τ 16) (h : InvN τ) : InvN τ' := by
  unfold InvN cntB at *
  rw [e0, e2, e4, e6, e7, e9, e10, e14, e15, e16]
  exact h
theorem y_msg_keep (e10 : τ' 10 = τ 10) (e14 : τ' 14 = τ 14) (e15 : τ' 15 = τ 15) {r q : Nat} : y_msg τ' r q = y_msg τ r q := by
  unfold y_msg
  rw [e10, e14, e15]
theorem y_has_keep (e2 : τ' 2 = τ 2) (e7 : τ' 7 = τ 7) (e10 : τ' 10 = τ 10) (e14 : τ' 14 = τ 14) (e15 : τ' 15 = τ 15) {n q : Nat} : y_has τ' n q = y_has τ n q := by
  unfold y_has y_msg
  rw [e2, e7, e10, e14, e15]
theorem y_wait_keep (e11 : τ' 11 = τ 11) (e13 : τ' 13 = τ 13) (e15 : τ' 15 = τ 15) {n m : Nat} : y_wait τ' n m = y_wait τ n m := by
  unfold y_wait
  rw [e11, e13, e15]
theorem y_qd_keep (e11 : τ' 11 = τ 11) (e13 : τ' 13 = τ 13) (e15 : τ' 15 = τ 15) {n k : Nat} : y_qd τ' n k = y_qd τ n k := by
  unfold y_qd y_wait
  rw [e11, e13, e15]
theorem RelQ_keep (s3 : σ' 3 = σ 3) (sq : ∀ n, n < 5 → σ' (20 + n) = σ (20 + n)) (e10 : τ' 10 = τ 10) (e11 : τ' 11 = τ 11) (e13 : τ' 13 = τ 13) (e15 : τ' 15 = τ 15) (h : RelQ σ τ) : RelQ σ' τ' := by
  intro n hn
  have := h n hn
  rw [s3, sq n hn, e10, y_qd_keep e11 e13 e15]
  refine ⟨this.1, fun i hi => ?_⟩
  rw [y_wait_keep e11 e13 e15, y_qd_keep e11 e13 e15]
  exact this.2 i hi
theorem RelM_keep (s0 : σ' 0 = σ 0) (s15 : σ' 15 = σ 15) (s60 : σ' 60 = σ 60) (s61 : σ' 61 = σ 61) (s62 : σ' 62 = σ 62) (e10 : τ' 10 = τ 10) (e11 : τ' 11 = τ 11) (e12 : τ' 12 = τ 12) (e14 : τ' 14 = τ 14) (e15 : τ' 15 = τ 15) (e16 : τ' 16 = τ 16) (h : RelM σ τ) : RelM σ' τ' := by
  unfold RelM b_stamp at *
  rw [s0, s15, s60, s61, s62, e10, e11, e12, e14, e15, e16]
  exact h
theorem Rg_keep {r g : Nat} (s10 : σ' 10 r = σ 10 r) (s11 : σ' 11 r = σ 11 r) (s12 : σ' 12 r = σ 12 r) (s13 : σ' 13 r = σ 13 r) (s14 : σ' 14 r = σ 14 r) (sa : σ' (40 + r) = σ (40 + r)) (sk : σ' (50 + r) = σ (50 + r)) (e10 : τ' 10 = τ 10) (e14 : τ' 14 = τ 14) (e15 : τ' 15 = τ 15) (e17 : τ' 17 g = τ 17 g) (e18 : τ' 18 g = τ 18 g) (e19 : τ' 19 g = τ 19 g) (e20 : ∀ k, k < 5 → τ' 20 (5 * g + k) = τ 20 (5 * g + k)) (e21 : τ' 21 g = τ 21 g) (h : Rg σ τ r g) : Rg σ' τ' r g := by
  obtain ⟨h0, h1, h2, h3, h4, h5, h6⟩ := h
  refine ⟨s10.trans h0, s11.trans (h1.trans e19.symm), s12.trans (h2.trans e17.symm), s13.trans (h3.trans e18.symm), s14.trans (h4.trans e21.symm), fun k hk => ?_, fun q a1 a2 => ?_⟩
  · rw [sk, e20 k hk]
    exact h5 k hk
  · rw [sa, y_msg_keep e10 e14 e15]
    exact h6 q a1 (by rw [← s13]; exact a2)
/-- a node's area -/
theorem Sim.place (h : Sim c σ τ) {n j : Nat} (hn : n < 5) (hj : j < 3) : Sim (c + 1) (sU σ 5 n j) (sU τ 1 n j) := by
  have s : ∀ f, f ≠ 5 → sU σ 5 n j f = σ f := fun f hf => sU_fn hf
  have t : ∀ f, f ≠ 1 → sU τ 1 n j f = τ f := fun f hf => sU_fn hf
  refine ⟨⟨bX_sU h.1.1 hj, bY_sU h.1.2.1 hj, by rw [t 16 (by decide)]; exact h.1.2.2.1, by rw [t 16 (by decide)]; have := h.1.2.2.2; omega⟩, InvM_keep (t _ (by decide)) (t _ (by decide)) (t _ (by decide)) (t _ (by decide)) (t _ (by decide)) (t _ (by decide)) (t _ (by decide)) (t _ (by decide)) h.2.1, InvN_keep (t _ (by decide)) (t _ (by decide)) (t _ (by decide)) (t _ (by decide)) (t _ (by decide)) (t _ (by decide)) (t _ (by decide)) (t _ (by decide)) (t _ (by decide)) (t _ (by decide)) h.2.2.1, fun k hk => ?_, RelQ_keep (s _ (by decide)) (fun n hn => s _ (by omega)) (t _ (by decide)) (t _ (by decide)) (t _ (by decide)) (t _ (by decide)) h.2.2.2.2.1, RelM_keep (s _ (by decide)) (s _ (by decide)) (s _ (by decide)) (s _ (by decide)) (s _ (by decide)) (t _ (by decide)) (t _ (by decide)) (t _ (by decide)) (t _ (by decide)) (t _ (by decide)) (t _ (by decide)) h.2.2.2.2.2⟩
  obtain ⟨⟨a1, a2, a3, a4⟩, b, d, e, f⟩ := h.2.2.2.1 k hk
  rw [s 1 (by decide), s 8 (by decide), s 9 (by decide), s 4 (by decide), s 6 (by decide), s 7 (by decide), s 2 (by decide), s (30 + k) (by omega), t 0 (by decide), t 5 (by decide), t 9 (by decide), t 8 (by decide), t 3 (by decide), t 4 (by decide), t 6 (by decide), t 2 (by decide)]
  refine ⟨⟨a1, ?_, a3, a4⟩, b, fun r hr => ?_, fun hu q => ?_, f⟩
  · by_cases hkn : k = n
    · subst hkn
      rw [sU_same, sU_same]
    · rw [sU_nei hkn, sU_nei hkn]
      exact a2
  · obtain ⟨d1, d2, d3, d4⟩ := d r hr
    exact ⟨d1, d2, d3, Rg_keep (by rw [s _ (by decide)]) (by rw [s _ (by decide)]) (by rw [s _ (by decide)]) (by rw [s _ (by decide)]) (by rw [s _ (by decide)]) (s _ (by omega)) (s _ (by omega)) (t _ (by decide)) (t _ (by decide)) (t _ (by decide)) (by rw [t _ (by decide)]) (by rw [t _ (by decide)]) (by rw [t _ (by decide)]) (fun k _ => by rw [t _ (by decide)]) (by rw [t _ (by decide)]) d4⟩
  · rw [y_has_keep (t _ (by decide)) (t _ (by decide)) (t _ (by decide)) (t _ (by decide)) (t _ (by decide))]
    exact e hu q
/-- a node's deafness -/
theorem Sim.deafen (h : Sim c σ τ) {n j : Nat} (hn : n < 5) (hj : j ≤ 20) : Sim (c + 1) (sU σ 8 n j) (sU τ 5 n j) := by
  have s : ∀ f, f ≠ 8 → sU σ 8 n j f = σ f := fun f hf => sU_fn hf
  have t : ∀ f, f ≠ 5 → sU τ 5 n j f = τ f := fun f hf => sU_fn hf
  refine ⟨⟨bX_sU h.1.1 (show j < 21 by omega), bY_sU h.1.2.1 (show j < 21 by omega), by rw [t 16 (by decide)]; exact h.1.2.2.1, by rw [t 16 (by decide)]; have := h.1.2.2.2; omega⟩, InvM_keep (t _ (by decide)) (t _ (by decide)) (t _ (by decide)) (t _ (by decide)) (t _ (by decide)) (t _ (by decide)) (t _ (by decide)) (t _ (by decide)) h.2.1, InvN_keep (t _ (by decide)) (t _ (by decide)) (t _ (by decide)) (t _ (by decide)) (t _ (by decide)) (t _ (by decide)) (t _ (by decide)) (t _ (by decide)) (t _ (by decide)) (t _ (by decide)) h.2.2.1, fun k hk => ?_, RelQ_keep (s _ (by decide)) (fun n hn => s _ (by omega)) (t _ (by decide)) (t _ (by decide)) (t _ (by decide)) (t _ (by decide)) h.2.2.2.2.1, RelM_keep (s _ (by decide)) (s _ (by decide)) (s _ (by decide)) (s _ (by decide)) (s _ (by decide)) (t _ (by decide)) (t _ (by decide)) (t _ (by decide)) (t _ (by decide)) (t _ (by decide)) (t _ (by decide)) h.2.2.2.2.2⟩
  obtain ⟨⟨a1, a2, a3, a4⟩, b, d, e, f⟩ := h.2.2.2.1 k hk
  rw [s 1 (by decide), s 5 (by decide), s 9 (by decide), s 4 (by decide), s 6 (by decide), s 7 (by decide), s 2 (by decide), s (30 + k) (by omega), t 0 (by decide), t 1 (by decide), t 9 (by decide), t 8 (by decide), t 3 (by decide), t 4 (by decide), t 6 (by decide), t 2 (by decide)]
  refine ⟨⟨a1, a2, ?_, a4⟩, b, fun r hr => ?_, fun hu q => ?_, f⟩
  · by_cases hkn : k = n
    · subst hkn
      rw [sU_same, sU_same]
    · rw [sU_nei hkn, sU_nei hkn]
      exact a3
  · obtain ⟨d1, d2, d3, d4⟩ := d r hr
    exact ⟨d1, d2, d3, Rg_keep (by rw [s _ (by decide)]) (by rw [s _ (by decide)]) (by rw [s _ (by decide)]) (by rw [s _ (by decide)]) (by rw [s _ (by decide)]) (s _ (by omega)) (s _ (by omega)) (t _ (by decide)) (t _ (by decide)) (t _ (by decide)) (by rw [t _ (by decide)]) (by rw [t _ (by decide)]) (by rw [t _ (by decide)]) (fun k _ => by rw [t _ (by decide)]) (by rw [t _ (by decide)]) d4⟩
  · rw [y_has_keep (t _ (by decide)) (t _ (by decide)) (t _ (by decide)) (t _ (by decide)) (t _ (by decide))]
    exact e hu q
/-- the token of a ring that somebody is in -/
theorem Sim.token (h : Sim c σ τ) {n r v : Nat} (hn : n < 5) (hr : σ 1 n = r + 1) (hv : v < 6) : Sim c (sU σ 12 r v) (sU τ 17 (τ 2 n) v) := by
  have s : ∀ f, f ≠ 12 → sU σ 12 r v f = σ f := fun f hf => sU_fn hf
  have t : ∀ f, f ≠ 17 → sU τ 17 (τ 2 n) v f = τ f := fun f hf => sU_fn hf
  refine ⟨⟨bX_sU h.1.1 hv, bY_sU h.1.2.1 hv, by rw [t 16 (by decide)]; exact h.1.2.2.1, by rw [t 16 (by decide)]; exact h.1.2.2.2⟩, InvM_keep (t _ (by decide)) (t _ (by decide)) (t _ (by decide)) (t _ (by decide)) (t _ (by decide)) (t _ (by decide)) (t _ (by decide)) (t _ (by decide)) h.2.1, InvN_keep (t _ (by decide)) (t _ (by decide)) (t _ (by decide)) (t _ (by decide)) (t _ (by decide)) (t _ (by decide)) (t _ (by decide)) (t _ (by decide)) (t _ (by decide)) (t _ (by decide)) h.2.2.1, fun k hk => ?_, RelQ_keep (s _ (by decide)) (fun n hn => s _ (by omega)) (t _ (by decide)) (t _ (by decide)) (t _ (by decide)) (t _ (by decide)) h.2.2.2.2.1, RelM_keep (s _ (by decide)) (s _ (by decide)) (s _ (by decide)) (s _ (by decide)) (s _ (by decide)) (t _ (by decide)) (t _ (by decide)) (t _ (by decide)) (t _ (by decide)) (t _ (by decide)) (t _ (by decide)) h.2.2.2.2.2⟩
  have hN := h.2.2.2.1 n hn
  obtain ⟨a, b, d, e, f⟩ := h.2.2.2.1 k hk
  rw [s 1 (by decide), s 5 (by decide), s 8 (by decide), s 9 (by decide), s 4 (by decide), s 6 (by decide), s 7 (by decide), s 2 (by decide), s (30 + k) (by omega), t 0 (by decide), t 1 (by decide), t 5 (by decide), t 9 (by decide), t 8 (by decide), t 3 (by decide), t 4 (by decide), t 6 (by decide), t 2 (by decide)]
  refine ⟨a, b, fun r1 hr1 => ?_, fun hu q => ?_, f⟩
  · obtain ⟨d1, d2, d3, d4⟩ := d r1 hr1
    refine ⟨d1, d2, d3, ?_⟩
    by_cases hrr : r1 = r
    · subst hrr
      have g1 : τ 2 k = τ 2 n := d4.1.symm.trans ((hN.2.2.1 r1 hr).2.2.2.1)
      obtain ⟨h0, h1, h2, h3, h4, h5, h6⟩ := d4
      refine ⟨by rw [s _ (by decide)]; exact h0, by rw [s _ (by decide), t _ (by decide)]; exact h1, by rw [g1, sU_same, sU_same], by rw [s _ (by decide), t _ (by decide)]; exact h3, by rw [s _ (by decide), t _ (by decide)]; exact h4, fun k hk => by rw [s _ (by omega), t _ (by decide)]; exact h5 k hk, fun q a1 a2 => ?_⟩
      rw [s _ (by omega), y_msg_keep (t _ (by decide)) (t _ (by decide)) (t _ (by decide))]
      rw [s _ (by decide)] at a2
      exact h6 q a1 a2
    · have g2 : τ 2 k ≠ τ 2 n := fun z => by
        have := (h.2.2.2.1 n hn).2.2.2.2 k hk (by omega) (by omega) z.symm
        omega
      exact Rg_keep (by rw [s _ (by decide)]) (by rw [s _ (by decide)]) (sU_nei hrr) (by rw [s _ (by decide)]) (by rw [s _ (by decide)]) (s _ (by omega)) (s _ (by omega)) (t _ (by decide)) (t _ (by decide)) (t _ (by decide)) (sU_nei g2) (by rw [t _ (by decide)]) (by rw [t _ (by decide)]) (fun k _ => by rw [t _ (by decide)]) (by rw [t _ (by decide)]) d4
  · rw [y_has_keep (t _ (by decide)) (t _ (by decide)) (t _ (by decide)) (t _ (by decide)) (t _ (by decide))]
    exact e hu q
theorem Sim.drop (h : Sim c σ τ) {n : Nat} (hn : n < 5) : (a_drop σ n).1 = (b_drop τ n).1 ∧ Sim (c + 1) (a_drop σ n).2 (b_drop τ n).2 := by
  have hN := h.2.2.2.1 n hn
  cases hr : σ 1 n with
  | zero =>
    have h0 : τ 0 n = 0 := hN.1.1.mp hr
    simp only [a_drop, b_drop, hr, if_pos h0]
    exact ⟨trivial, h.mono⟩
  | succ r =>
    have h0 : ¬ τ 0 n = 0 := fun z => by have := hN.1.1.mpr z; omega
    have g2 := (hN.2.2.1 r hr).2.2.2.2.2.1
    simp only [a_drop, b_drop, hr, if_neg h0, g2]
    by_cases hz : τ 17 (τ 2 n) = 0
    · rw [if_pos hz, if_pos hz]
      exact ⟨rfl, h.mono⟩
    · rw [if_neg hz, if_neg hz]
      exact ⟨rfl, (h.token hn hr (by decide)).mono⟩
end KEEP
