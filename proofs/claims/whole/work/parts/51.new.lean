/-! 51.new: sending new messages keeps the relation -/
section NEWM
variable {c : Nat} {σ τ : Nat → Nat → Nat}
theorem Sim.waits (h : Sim c σ τ) {n r : Nat} (hn : n < 5) (hr : σ 1 n = r + 1) : (0 < σ 3 n ∧ σ 13 r < 48) ↔ 0 < y_first τ n := by
  have e13 : σ 13 r = τ 18 (τ 2 n) := ((h.2.2.2.1 n hn).2.2.1 r hr).2.2.2.2.2.2.1
  constructor
  · intro z
    have := ((h.2.2.2.2.1 n hn).2 0 z.1).1
    have := h.head hn z.1
    omega
  · intro z
    obtain ⟨f1, f2, f3⟩ := y_first_spec z
    refine ⟨?_, by rw [e13]; exact h.room f1 f2 (of_decide_eq_true f3).2.1⟩
    apply Decidable.byContradiction
    intro y
    have := h.empty hn (by omega)
    omega
theorem Sim.nw1 (h : Sim c σ τ) {n r : Nat} (hn : n < 5) (hr : σ 1 n = r + 1) (hf : 0 < y_first τ n) : Sim c (x_nw1 n r σ) (y_nw1 n (τ 2 n) τ) ∧ x_nw1 n r σ 1 = σ 1 ∧ y_nw1 n (τ 2 n) τ 2 = τ 2 ∧ τ 18 (τ 2 n) < 48 := by
  have e13 : σ 13 r = τ 18 (τ 2 n) := ((h.2.2.2.1 n hn).2.2.1 r hr).2.2.2.2.2.2.1
  obtain ⟨w1, w2⟩ := (h.waits hn hr).mpr hf
  have e2 : y_nw0 n (τ 2 n) τ 2 = τ 2 := nw0_fn (by decide)
  refine ⟨?_, funext fun j => ?_, ?_, by rw [← e13]; exact w2⟩
  · refine (h.number hn hr w1).bcast hn (by omega) (by omega) ?_ hf
    rw [e2, e13, nw0_msg_new h.2.1 hf]
  · show x_bcast (s_num σ n r) n (σ 13 r + 1) 1 j = _
    rw [x_bcast_ne (by decide) (by decide), s_num_fn (by omega)]
  · show y_bcast (y_nw0 n (τ 2 n) τ) n (y_first τ n) 2 = _
    rw [y_bcast_fn (by decide) (by decide), e2]
theorem Sim.nw (h : Sim c σ τ) {n r : Nat} (hn : n < 5) (hr : σ 1 n = r + 1) : Sim c (x_nw n r 2 σ 0).1 (y_nw n (τ 2 n) τ 2).1 ∧ (x_nw n r 2 σ 0).2 = (y_nw n (τ 2 n) τ 2).2 ∧ y_nwOK n (τ 2 n) τ ∧ (x_nw n r 2 σ 0).1 1 = σ 1 ∧ (y_nw n (τ 2 n) τ 2).1 2 = τ 2 := by
  have y0 : y_nw n (τ 2 n) τ 0 = (τ, 0) := rfl
  by_cases h0 : 0 < y_first τ n
  · obtain ⟨a1, a2, a3, a4⟩ := h.nw1 hn hr h0
    have hr1 : x_nw1 n r σ 1 n = r + 1 := by rw [a2]; exact hr
    have y1 : y_nw n (τ 2 n) τ 1 = (y_nw1 n (τ 2 n) τ, 1) := by rw [y_nw_s, y0, if_pos h0]
    have x1 : x_nw n r 2 σ 0 = x_nw n r 1 (x_nw1 n r σ) 1 := by rw [x_nw, if_pos ((h.waits hn hr).mpr h0)]
    by_cases h1 : 0 < y_first (y_nw1 n (τ 2 n) τ) n
    · have b := a1.nw1 hn hr1 h1
      rw [a3] at b
      obtain ⟨b1, b2', b3, b4⟩ := b
      have y2 : y_nw n (τ 2 n) τ 2 = (y_nw1 n (τ 2 n) (y_nw1 n (τ 2 n) τ), 2) := by rw [y_nw_s, y1, if_pos h1]
      have x2 : x_nw n r 2 σ 0 = (x_nw1 n r (x_nw1 n r σ), 2) := by rw [x1, x_nw, if_pos ((a1.waits hn hr1).mpr h1), x_nw]
      rw [x2, y2]
      refine ⟨b1, rfl, fun k hk _ => ?_, b2'.trans a2, b3⟩
      match k, hk with
      | 0, _ => exact a4
      | 1, _ =>
        rw [y1]
        exact b4
    · have y2 : y_nw n (τ 2 n) τ 2 = (y_nw1 n (τ 2 n) τ, 1) := by rw [y_nw_s, y1, if_neg h1]
      have x2 : x_nw n r 2 σ 0 = (x_nw1 n r σ, 1) := by rw [x1, x_nw, if_neg (fun z => h1 ((a1.waits hn hr1).mp z))]
      rw [x2, y2]
      refine ⟨a1, rfl, fun k hk z => ?_, a2, a3⟩
      match k, hk with
      | 0, _ => exact a4
      | 1, _ =>
        rw [y1] at z
        exact absurd z h1
  · have y1 : y_nw n (τ 2 n) τ 1 = (τ, 0) := by rw [y_nw_s, y0, if_neg h0]
    have y2 : y_nw n (τ 2 n) τ 2 = (τ, 0) := by rw [y_nw_s, y1, if_neg h0]
    have x2 : x_nw n r 2 σ 0 = (σ, 0) := by rw [x_nw, if_neg (fun z => h0 ((h.waits hn hr).mp z))]
    rw [x2, y2]
    refine ⟨h, rfl, fun k hk z => ?_, rfl, rfl⟩
    match k, hk with
    | 0, _ => exact absurd z h0
    | 1, _ =>
      rw [y1] at z
      exact absurd z h0
end NEWM
