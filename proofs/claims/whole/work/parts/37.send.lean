/-! 37.send: send keeps the relation -/
section SEND
variable {c : Nat} {σ τ : Nat → Nat → Nat}
theorem fnd_last {p : Nat → Bool} : ∀ (k m : Nat), p (m + k) = false → fnd p (k + 1) m = fnd p k m
  | 0, m, h => by
    unfold fnd fnd
    rw [if_neg (by rw [show p m = false from h]; decide)]
  | k + 1, m, h => by
    have h1 := fnd_last k (m + 1) (by rw [show m + 1 + k = m + (k + 1) by omega]; exact h)
    rw [fnd]
    conv => rhs; rw [fnd]
    rw [h1]
def t_send (τ : Nat → Nat → Nat) (n s : Nat) : Nat → Nat → Nat := sU (sU (sU τ 10 0 (τ 10 0 + 1)) 11 (τ 10 0 + 1) n) 12 (τ 10 0 + 1) s
def s_send (σ : Nat → Nat → Nat) (n s : Nat) : Nat → Nat → Nat := sU (sU (x_take σ n s) (20 + n) (σ 3 n) (σ 15 0 + 1)) 3 n (σ 3 n + 1)
theorem t_send_fn {n s f : Nat} (h1 : f ≠ 10) (h2 : f ≠ 11) (h3 : f ≠ 12) : t_send τ n s f = τ f := by
  unfold t_send
  rw [sU_fn h3, sU_fn h2, sU_fn h1]
theorem s_send_fn {n s f : Nat} (h1 : f ≠ 3) (h2 : f ≠ 20 + n) (h3 : f ≠ 61) (h4 : f ≠ 60) (h5 : f ≠ 15) : s_send σ n s f = σ f := by
  unfold s_send x_take
  rw [sU_fn h1, sU_fn h2, sU_fn h3, sU_fn h4, sU_fn h5]
theorem t10 {n s : Nat} : t_send τ n s 10 0 = τ 10 0 + 1 := by
  unfold t_send
  rw [sU_nef (by decide), sU_nef (by decide), sU_same]
theorem t11 {n s m : Nat} : t_send τ n s 11 m = if m = τ 10 0 + 1 then n else τ 11 m := by
  unfold t_send
  rw [sU_nef (by decide), sU_app]
  by_cases h : m = τ 10 0 + 1
  · rw [if_pos ⟨rfl, h⟩, if_pos h]
  · rw [if_neg (fun z => h z.2), if_neg h, sU_nef (by decide)]
theorem t12 {n s m : Nat} : t_send τ n s 12 m = if m = τ 10 0 + 1 then s else τ 12 m := by
  unfold t_send
  rw [sU_app]
  by_cases h : m = τ 10 0 + 1
  · rw [if_pos ⟨rfl, h⟩, if_pos h]
  · rw [if_neg (fun z => h z.2), if_neg h, sU_nef (by decide), sU_nef (by decide)]
theorem t_msg (hM : InvM τ) {n s r q : Nat} (hq : 1 ≤ q) : y_msg (t_send τ n s) r q = y_msg τ r q := by
  unfold y_msg
  rw [t10, t_send_fn (f := 15) (by decide) (by decide) (by decide), t_send_fn (f := 14) (by decide) (by decide) (by decide)]
  refine fnd_last _ _ (decide_eq_false (fun z => ?_))
  have := (hM.2.1 (1 + τ 10 0) (by omega)).1
  omega
theorem t_has (hM : InvM τ) {n s k q : Nat} (hq : 1 ≤ q) : y_has (t_send τ n s) k q = y_has τ k q := by
  unfold y_has
  rw [t_send_fn (f := 2) (by decide) (by decide) (by decide), t_send_fn (f := 7) (by decide) (by decide) (by decide), t_msg hM hq]
theorem t_wait (hM : InvM τ) {n s k m : Nat} (hm : m ≤ τ 10 0) : y_wait (t_send τ n s) k m = y_wait τ k m := by
  unfold y_wait
  rw [t_send_fn (f := 15) (by decide) (by decide) (by decide), t_send_fn (f := 13) (by decide) (by decide) (by decide), t11, if_neg (by omega)]
theorem t_qd (hM : InvM τ) {n s k : Nat} : ∀ j, j ≤ τ 10 0 → y_qd (t_send τ n s) k j = y_qd τ k j
  | 0, _ => rfl
  | j + 1, hj => by rw [y_qd_s, y_qd_s, t_qd hM j (by omega), t_wait hM hj]
theorem t_wait0 (hM : InvM τ) {n s k : Nat} : y_wait (t_send τ n s) k (τ 10 0 + 1) = decide (n = k) := by
  unfold y_wait
  rw [t_send_fn (f := 15) (by decide) (by decide) (by decide), t_send_fn (f := 13) (by decide) (by decide) (by decide), t11, if_pos rfl, (hM.2.1 (τ 10 0 + 1) (by omega)).1, (hM.2.1 (τ 10 0 + 1) (by omega)).2]
  by_cases h : n = k <;> simp [h]
theorem Sim.send_up (h : Sim c σ τ) {n s : Nat} (hn : n < 5) (hs : s ≤ 1) (h10 : τ 10 0 < 48) (h3 : σ 3 n < 8) : Sim (c + 1) (s_send σ n s) (t_send τ n s) := by
  obtain ⟨⟨hbX, hbY, h16, h16'⟩, hM, hIN, hRN, hRQ, hRM⟩ := h
  have e15 : σ 15 0 = τ 10 0 := hRM.2.1
  have s_ : ∀ f, f ≠ 3 → f ≠ 20 + n → f ≠ 61 → f ≠ 60 → f ≠ 15 → s_send σ n s f = σ f := fun f a1 a2 a3 a4 a5 => s_send_fn a1 a2 a3 a4 a5
  have t_ : ∀ f, f ≠ 10 → f ≠ 11 → f ≠ 12 → t_send τ n s f = τ f := fun f a1 a2 a3 => t_send_fn a1 a2 a3
  have u15 := t_ 15 (by decide) (by decide) (by decide)
  have u14 := t_ 14 (by decide) (by decide) (by decide)
  have u16 := t_ 16 (by decide) (by decide) (by decide)
  have u18 := t_ 18 (by decide) (by decide) (by decide)
  have z := hM.2.1 (τ 10 0 + 1) (by omega)
  have cN : cntN (t_send τ n s) = cntN τ := by
    unfold cntN
    rw [t10, u15, cn_s, b2_f (decide_eq_false (fun q => q z.1))]
    rfl
  have cB : ∀ r q, cntB (t_send τ n s) r q = cntB τ r q := fun r q => by
    unfold cntB
    rw [t10, u15, u14, cn_s, b2_f (decide_eq_false (fun q => q.1 z.1))]
    rfl
  refine ⟨⟨?_, ?_, by rw [u16]; exact h16, by rw [u16]; omega⟩, ⟨?_, ?_, ?_, ?_, ?_, ?_, ?_⟩, ?_, ?_, ?_, ?_⟩
  · exact bX_sU (bX_sU (bX_take hbX (by omega) hn hs) (by rw [Bx_q hn]; omega)) (show _ < 9 by omega)
  · exact bY_sU (bY_sU (bY_sU hbY (show _ < 49 by omega)) hn) (show s < 2 by omega)
  · intro m a1 a2 a3
    rw [t10] at a2
    rw [u15] at a3 ⊢
    rw [u14, u16, u18]
    by_cases e : m = τ 10 0 + 1
    · exact absurd (e ▸ z.1) a3
    · exact hM.1 m a1 (by omega) a3
  · intro m a1
    rw [t10] at a1
    rw [u15, t_ 13 (by decide) (by decide) (by decide)]
    exact hM.2.1 m (by omega)
  · intro m k a1 a2 a3 a4 a5 a6 a7
    rw [t10] at a2 a4
    rw [u15] at a5 a6
    rw [u14] at a7
    have b1 : m ≠ τ 10 0 + 1 := fun e => a5 (e ▸ z.1)
    have b2' : k ≠ τ 10 0 + 1 := fun e => a5 (a6.trans (e ▸ z.1))
    exact hM.2.2.1 m k a1 (by omega) a3 (by omega) a5 a6 a7
  · intro r q a1 a2
    rw [u18] at a2
    obtain ⟨m, b1, b2', b3, b4⟩ := hM.2.2.2.1 r q a1 a2
    exact ⟨m, b1, by rw [t10]; omega, by rw [u15]; exact b3, by rw [u14]; exact b4⟩
  · rw [u16, u18, t_ 21 (by decide) (by decide) (by decide), t_ 20 (by decide) (by decide) (by decide)]
    exact hM.2.2.2.2.1
  · rw [t_ 21 (by decide) (by decide) (by decide)]
    exact hM.2.2.2.2.2.1
  · intro r
    rw [u18, cN]
    exact hM.2.2.2.2.2.2 r
  · intro k hk
    obtain ⟨a, b, d⟩ := hIN k hk
    rw [t_ 2 (by decide) (by decide) (by decide), t_ 6 (by decide) (by decide) (by decide), t_ 0 (by decide) (by decide) (by decide), t_ 7 (by decide) (by decide) (by decide), t_ 9 (by decide) (by decide) (by decide), t_ 4 (by decide) (by decide) (by decide), u16, u15, u14, cB, t10]
    exact ⟨a, fun h0 m m1 m2 m3 => ⟨by have := (b h0 m m1 m2 m3).1; omega, (b h0 m m1 m2 m3).2⟩, d⟩
  · intro k hk
    obtain ⟨a, b, d, e, f⟩ := hRN k hk
    rw [s_ 1 (by decide) (by omega) (by decide) (by decide) (by decide), s_ 5 (by decide) (by omega) (by decide) (by decide) (by decide), s_ 8 (by decide) (by omega) (by decide) (by decide) (by decide), s_ 9 (by decide) (by omega) (by decide) (by decide) (by decide), s_ 4 (by decide) (by omega) (by decide) (by decide) (by decide), s_ 6 (by decide) (by omega) (by decide) (by decide) (by decide), s_ 7 (by decide) (by omega) (by decide) (by decide) (by decide), s_ 2 (by decide) (by omega) (by decide) (by decide) (by decide), s_ (30 + k) (by omega) (by omega) (by omega) (by omega) (by omega), t_ 0 (by decide) (by decide) (by decide), t_ 1 (by decide) (by decide) (by decide), t_ 5 (by decide) (by decide) (by decide), t_ 9 (by decide) (by decide) (by decide), t_ 8 (by decide) (by decide) (by decide), t_ 3 (by decide) (by decide) (by decide), t_ 4 (by decide) (by decide) (by decide), t_ 6 (by decide) (by decide) (by decide), t_ 2 (by decide) (by decide) (by decide)]
    refine ⟨a, b, fun r hr => ?_, fun hu q => ?_, f⟩
    · obtain ⟨d1, d2, d3, g0, g1, g2, g3, g4, g5, g6⟩ := d r hr
      have hr6 : r < 6 := by have : σ 1 k < 7 := hbX 1 k; omega
      refine ⟨d1, d2, d3, ?_, ?_, ?_, ?_, ?_, ?_, ?_⟩
      · rw [s_ 10 (by decide) (by omega) (by decide) (by decide) (by decide)]; exact g0
      · rw [s_ 11 (by decide) (by omega) (by decide) (by decide) (by decide), t_ 19 (by decide) (by decide) (by decide)]; exact g1
      · rw [s_ 12 (by decide) (by omega) (by decide) (by decide) (by decide), t_ 17 (by decide) (by decide) (by decide)]; exact g2
      · rw [s_ 13 (by decide) (by omega) (by decide) (by decide) (by decide), u18]; exact g3
      · rw [s_ 14 (by decide) (by omega) (by decide) (by decide) (by decide), t_ 21 (by decide) (by decide) (by decide)]; exact g4
      · rw [s_ (50 + r) (by omega) (by omega) (by omega) (by omega) (by omega), t_ 20 (by decide) (by decide) (by decide)]; exact g5
      · intro q q1 q2
        rw [s_ 13 (by decide) (by omega) (by decide) (by decide) (by decide)] at q2
        rw [s_ (40 + r) (by omega) (by omega) (by omega) (by omega) (by omega), t_msg hM q1]
        exact g6 q q1 q2
    · rw [e hu q]
      by_cases q1 : 1 ≤ q
      · rw [t_has hM q1]
      · rw [decide_eq_false q1, Bool.false_and, Bool.false_and]
  · intro k hk
    obtain ⟨a, b⟩ := hRQ k hk
    rw [t10, y_qd_s, t_qd hM _ (Nat.le_refl _), t_wait0 hM]
    by_cases hkn : k = n
    · subst hkn
      have w3 : s_send σ k s 3 k = σ 3 k + 1 := by unfold s_send; rw [sU_same]
      rw [w3, b2_t (decide_eq_true rfl)]
      refine ⟨by rw [a], fun i hi => ?_⟩
      have wq : s_send σ k s (20 + k) i = if i = σ 3 k then σ 15 0 + 1 else σ (20 + k) i := by
        unfold s_send
        rw [sU_nef (by omega), sU_app]
        by_cases e : i = σ 3 k
        · rw [if_pos ⟨rfl, e⟩, if_pos e]
        · rw [if_neg (fun q => e q.2), if_neg e, x_take_ne (by omega) (by omega) (by omega)]
      rw [wq]
      by_cases e : i = σ 3 k
      · rw [if_pos e, e15, t_wait0 hM, y_qd_s, t_qd hM _ (Nat.le_refl _), t_wait0 hM, b2_t (decide_eq_true rfl)]
        exact ⟨by omega, Nat.le_refl _, decide_eq_true rfl, by rw [← a, e]⟩
      · rw [if_neg e]
        obtain ⟨b1, b2', b3, b4⟩ := b i (by omega)
        exact ⟨b1, by omega, by rw [t_wait hM b2']; exact b3, by rw [t_qd hM _ b2']; exact b4⟩
    · have w3 : s_send σ n s 3 k = σ 3 k := by
        unfold s_send
        rw [sU_nei hkn, sU_nef (by omega), x_take_ne (by decide) (by decide) (by decide)]
      rw [w3, b2_f (decide_eq_false (fun q => hkn q.symm)), s_ (20 + k) (by omega) (by omega) (by omega) (by omega) (by omega)]
      refine ⟨a, fun i hi => ?_⟩
      obtain ⟨b1, b2', b3, b4⟩ := b i hi
      exact ⟨b1, by omega, by rw [t_wait hM b2']; exact b3, by rw [t_qd hM _ b2']; exact b4⟩
  · obtain ⟨a, b, d, e⟩ := hRM
    have w15 : s_send σ n s 15 0 = σ 15 0 + 1 := by
      unfold s_send x_take
      rw [sU_nef (by decide), sU_nef (by omega), sU_nef (by decide), sU_nef (by decide), sU_same]
    have w60 : ∀ m, s_send σ n s 60 m = if m = σ 15 0 + 1 then n else σ 60 m := fun m => by
      unfold s_send x_take
      rw [sU_nef (by decide), sU_nef (by omega), sU_nef (by decide), sU_app]
      by_cases e : m = σ 15 0 + 1
      · rw [if_pos ⟨rfl, e⟩, if_pos e]
      · rw [if_neg (fun q => e q.2), if_neg e, sU_nef (by decide)]
    have w61 : ∀ m, s_send σ n s 61 m = if m = σ 15 0 + 1 then s else σ 61 m := fun m => by
      unfold s_send x_take
      rw [sU_nef (by decide), sU_nef (by omega), sU_app]
      by_cases e : m = σ 15 0 + 1
      · rw [if_pos ⟨rfl, e⟩, if_pos e]
      · rw [if_neg (fun q => e q.2), if_neg e, sU_nef (by decide), sU_nef (by decide)]
    refine ⟨?_, by rw [w15, t10, e15], fun m m1 m2 => ?_, fun m m1 => ?_⟩
    · rw [s_ 0 (by decide) (by omega) (by decide) (by decide) (by decide), u16]
      exact a
    · rw [t10] at m2
      rw [w60, w61, t11, t12, s_ 62 (by decide) (by omega) (by decide) (by decide) (by decide), e15]
      unfold b_stamp
      rw [u15, u14]
      by_cases hm : m = τ 10 0 + 1
      · subst hm
        refine ⟨?_, ?_, ?_⟩
        · rw [if_pos rfl, if_pos rfl]
        · rw [if_pos rfl, if_pos rfl]
        · rw [if_pos z.1]
          exact e _ (by omega)
      · rw [if_neg hm, if_neg hm, if_neg hm, if_neg hm]
        exact d m m1 (by omega)
    · rw [t10] at m1
      rw [s_ 62 (by decide) (by omega) (by decide) (by decide) (by decide)]
      exact e m (by omega)
theorem Sim.send (h : Sim c σ τ) {n s : Nat} (hn : n < 5) (hs : s ≤ 1) : (a_send σ n s).1 = (b_send τ n s).1 ∧ Sim (c + 1) (a_send σ n s).2 (b_send τ n s).2 := by
  have e15 : σ 15 0 = τ 10 0 := h.2.2.2.2.2.2.1
  have hN := h.2.2.2.1 n hn
  have hQ := (h.2.2.2.2.1 n hn).1
  have b10 : τ 10 0 < 49 := h.1.2.1 10 0
  have b3 : σ 3 n < 9 := h.1.1 3 n
  unfold a_send b_send
  by_cases h0 : σ 1 n = 0
  · rw [if_pos h0, if_pos (hN.1.1.mp h0)]
    exact ⟨rfl, h.mono⟩
  · rw [if_neg h0, if_neg (fun z => h0 (hN.1.1.mpr z)), e15, ← hQ]
    by_cases h1 : τ 10 0 = 48
    · rw [if_pos (by omega), if_pos h1]
      exact ⟨rfl, h.mono⟩
    · rw [if_neg (by omega), if_neg h1]
      by_cases h2 : σ 3 n = 8
      · rw [if_pos (by omega), if_pos h2]
        exact ⟨rfl, h.mono⟩
      · rw [if_neg (by omega), if_neg h2]
        refine ⟨rfl, ?_⟩
        have hz := h.send_up hn hs (by omega) (show σ 3 n < 8 by omega)
        have e : x_enq (x_take σ n s) n (τ 10 0 + 1) = s_send σ n s := by
          have e3 : x_take σ n s 3 n = σ 3 n := x_take_ne (by decide) (by decide) (by decide)
          unfold x_enq
          rw [e3, if_pos (by omega), ← e15]
          rfl
        show Sim (c + 1) (x_enq (x_take σ n s) n (τ 10 0 + 1)) (t_send τ n s)
        rw [e]
        exact hz
end SEND
