/-! 39.enter: a new ring, in an object that nobody is in; a node enters it -/
section ENTER
variable {c : Nat} {σ τ : Nat → Nat → Nat}
theorem x_zero_s {r k : Nat} : x_zero r σ (k + 1) = sU (x_zero r σ k) (50 + r) k 0 := rfl
theorem x_zero_fn {r f : Nat} (h : f ≠ 50 + r) : ∀ k, x_zero r σ k f = σ f
  | 0 => rfl
  | k + 1 => by rw [x_zero_s, sU_fn h, x_zero_fn h k]
theorem x_zero_at {r i : Nat} : ∀ k, i < k → x_zero r σ k (50 + r) i = 0
  | 0, h => by omega
  | k + 1, h => by
    rw [x_zero_s]
    by_cases e : i = k
    · subst e
      rw [sU_same]
    · rw [sU_nei e, x_zero_at k (by omega)]
/-- σ and τ behind the forming of a ring: the object u is the newest ring, and nobody has been given a number in it -/
def New (c : Nat) (σ τ : Nat → Nat → Nat) (u : Nat) : Prop := Sim c σ τ ∧ Rg σ τ u (τ 16 0) ∧ τ 18 (τ 16 0) = 0 ∧ ∀ k, k < 5 → σ 1 k ≠ 0 → τ 2 k = τ 16 0 → σ 1 k = u + 1
def s_ring (σ : Nat → Nat → Nat) (u mem : Nat) : Nat → Nat → Nat := x_ring (sU σ 0 0 (σ 0 0 + 1)) u (σ 0 0 + 1) mem
theorem s_ring_fn {u mem f : Nat} (h : f ≠ 0 ∧ f ≠ 10 ∧ f ≠ 11 ∧ f ≠ 12 ∧ f ≠ 13 ∧ f ≠ 14 ∧ f ≠ 50 + u) : s_ring σ u mem f = σ f := by
  obtain ⟨h0, h1, h2, h3, h4, h5, h6⟩ := h
  unfold s_ring x_ring
  rw [x_zero_fn h6, sU_fn h5, sU_fn h4, sU_fn h3, sU_fn h2, sU_fn h1, sU_fn h0]
theorem s_ring_ne {u mem f r : Nat} (h : f ≠ 0 ∧ f ≠ 50 + u) (hr : r ≠ u) : s_ring σ u mem f r = σ f r := by
  unfold s_ring x_ring
  rw [x_zero_fn h.2, sU_nei hr, sU_nei hr, sU_nei hr, sU_nei hr, sU_nei hr, sU_nef h.1]
theorem y_newR_fn {b w f : Nat} (h : f ≠ 16 ∧ f ≠ 19 ∧ f ≠ 17) : y_newR τ b w f = τ f := by
  unfold y_newR
  rw [sU_fn h.2.2, sU_fn h.2.1, sU_fn h.1]
theorem y_newR_ne {b w f r : Nat} (h : f ≠ 16) (hr : r ≠ τ 16 0 + 1) : y_newR τ b w f r = τ f r := by
  unfold y_newR
  rw [sU_nei hr, sU_nei hr, sU_nef h]
theorem y_newR16 {b w : Nat} : y_newR τ b w 16 0 = τ 16 0 + 1 := by
  unfold y_newR
  rw [sU_nef (by decide), sU_nef (by decide), sU_same]
theorem Sim.ring (h : Sim c σ τ) {u mem w : Nat} (hu : u < 6) (hm : mem < 32) (hf : ∀ k, k < 5 → σ 1 k ≠ u + 1) (hw : w = x_after mem 4) (hw5 : w < 5) (hc : c < 512) : New (c + 1) (s_ring σ u mem) (y_newR τ mem w) u := by
  obtain ⟨⟨hbX, hbY, h16, h16'⟩, hM, hIN, hRN, hRQ, hRM⟩ := h
  have e0 : σ 0 0 = τ 16 0 := hRM.1
  have t_ : ∀ f, f ≠ 16 ∧ f ≠ 19 ∧ f ≠ 17 → y_newR τ mem w f = τ f := fun f hf => y_newR_fn hf
  have s1 : s_ring σ u mem 1 = σ 1 := s_ring_fn (by omega)
  have e2 := t_ 2 (by decide)
  have e7 := t_ 7 (by decide)
  have e10 := t_ 10 (by decide)
  have e11 := t_ 11 (by decide)
  have e13 := t_ 13 (by decide)
  have e14 := t_ 14 (by decide)
  have e15 := t_ 15 (by decide)
  have e18 := t_ 18 (by decide)
  have e20 := t_ 20 (by decide)
  have e21 := t_ 21 (by decide)
  have hz := hM.2.2.2.2.1 (τ 16 0 + 1) (by omega)
  refine ⟨⟨⟨?_, ?_, by rw [y_newR16]; omega, by rw [y_newR16]; omega⟩, ?_, ?_, ?_, ?_, ?_⟩, ?_, by rw [y_newR16, e18]; exact hz.1, ?_⟩
  · exact bX_ring (bX_sU hbX (show σ 0 0 + 1 < 600 by omega)) hu (show σ 0 0 + 1 < 600 by omega) hm
  · exact bY_newR hbY (by omega) hm hw5
  · obtain ⟨m1, m2, m3, m4, m5, m6⟩ := hM
    unfold InvM cntN
    rw [e10, e13, e14, e15, e18, e20, e21, y_newR16]
    exact ⟨fun m a1 a2 a3 => ⟨(m1 m a1 a2 a3).1, by have := (m1 m a1 a2 a3).2.1; omega, (m1 m a1 a2 a3).2.2⟩, m2, m3, m4, fun r hr => m5 r (by omega), m6⟩
  · intro k hk
    have := hIN k hk
    unfold cntB
    rw [e2, e7, e10, e14, e15, y_newR16, t_ 0 (by decide), t_ 4 (by decide), t_ 6 (by decide), t_ 9 (by decide)]
    exact ⟨⟨this.1.1, by have := this.1.2.1; omega, this.1.2.2⟩, this.2⟩
  · intro k hk
    obtain ⟨a, b, d, e, f⟩ := hRN k hk
    rw [s1, s_ring_fn (f := 2) (by omega), s_ring_fn (f := 5) (by omega), s_ring_fn (f := 8) (by omega), s_ring_fn (f := 9) (by omega), s_ring_fn (f := 4) (by omega), s_ring_fn (f := 30 + k) (by omega), s_ring_fn (f := 6) (by omega), s_ring_fn (f := 7) (by omega), e2, t_ 0 (by decide), t_ 1 (by decide), t_ 3 (by decide), t_ 4 (by decide), t_ 5 (by decide), t_ 6 (by decide), t_ 8 (by decide), t_ 9 (by decide)]
    refine ⟨a, b, fun r hr => ?_, fun hu q => ?_, f⟩
    · obtain ⟨d1, d2, d3, d4⟩ := d r hr
      have hru : r ≠ u := fun z => hf k hk (by rw [hr, z])
      have hg : τ 2 k ≠ τ 16 0 + 1 := by have := (hIN k hk).1.2.1; omega
      exact ⟨d1, d2, d3, Rg_keep (s_ring_ne (by omega) hru) (s_ring_ne (by omega) hru) (s_ring_ne (by omega) hru) (s_ring_ne (by omega) hru) (s_ring_ne (by omega) hru) (s_ring_fn (by have : σ 1 k < 7 := hbX 1 k; omega)) (s_ring_fn (by omega)) e10 e14 e15 (y_newR_ne (by decide) hg) (by rw [e18]) (y_newR_ne (by decide) hg) (fun k _ => by rw [e20]) (by rw [e21]) d4⟩
    · rw [y_has_keep e2 e7 e10 e14 e15]
      exact e hu q
  · exact RelQ_keep (s_ring_fn (by omega)) (fun k hk => s_ring_fn (by omega)) e10 e11 e13 e15 hRQ
  · obtain ⟨a, b, d, e⟩ := hRM
    have w0 : s_ring σ u mem 0 0 = σ 0 0 + 1 := by
      unfold s_ring x_ring
      rw [x_zero_fn (by omega), sU_nef (by decide), sU_nef (by decide), sU_nef (by decide), sU_nef (by decide), sU_nef (by decide), sU_same]
    unfold RelM b_stamp at *
    rw [w0, y_newR16, s_ring_fn (f := 15) (by omega), s_ring_fn (f := 60) (by omega), s_ring_fn (f := 61) (by omega), s_ring_fn (f := 62) (by omega), e10, e11, e14, e15, t_ 12 (by decide)]
    exact ⟨by omega, b, d, e⟩
  · rw [y_newR16]
    have z13 : s_ring σ u mem 13 u = 0 := by
      unfold s_ring x_ring
      rw [x_zero_fn (by omega), sU_nef (by decide), sU_same]
    refine ⟨?_, ?_, ?_, ?_, ?_, fun k hk => ?_, fun q a1 a2 => ?_⟩
    · unfold s_ring x_ring
      rw [x_zero_fn (by omega), sU_nef (by decide), sU_nef (by decide), sU_nef (by decide), sU_nef (by decide), sU_same, e0]
    · unfold s_ring x_ring y_newR
      rw [x_zero_fn (by omega), sU_nef (by decide), sU_nef (by decide), sU_nef (by decide), sU_same, sU_nef (by decide), sU_same]
    · unfold s_ring x_ring y_newR
      rw [x_zero_fn (by omega), sU_nef (by decide), sU_nef (by decide), sU_same, sU_same, hw]
    · rw [z13, e18, hz.1]
    · rw [e21, hz.2.1]
      unfold s_ring x_ring
      rw [x_zero_fn (by omega), sU_same]
    · rw [e20, hz.2.2 k hk]
      unfold s_ring x_ring
      rw [x_zero_at 5 hk]
    · rw [z13] at a2
      omega
  · intro k hk u1 u2
    rw [y_newR16, e2] at u2
    have := (hIN k hk).1.2.1
    omega
end ENTER
