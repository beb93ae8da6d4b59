/-! 65.visit: a tick and a visit keep the relation; all that the law's walk wants of it -/
section VISIT
variable {c : Nat} {σ τ : Nat → Nat → Nat}
theorem Sim.tick (h : Sim c σ τ) (hc : c < 512) {n : Nat} (hn : n < 5) : (τ 0 n ≠ 0 → ¬ τ 6 n + 1 < 4 → y_formOK (sU τ 6 n (τ 6 n + 1)) (τ 1 n)) ∧ (a_tick σ n).1 = (b_tick τ n).1 ∧ Sim (c + 1) (a_tick σ n).2 (b_tick τ n).2 := by
  have hN := h.2.2.2.1 n hn
  have h6 : τ 6 n ≤ 3 := (h.2.2.1 n hn).1.2.2
  refine ⟨fun hu _ => (h.form hc hn hu rfl (by omega)).2, ?_⟩
  unfold a_tick b_tick
  by_cases h0 : σ 1 n = 0
  · rw [if_pos h0, if_pos (hN.1.1.mp h0)]
    exact ⟨rfl, h.mono⟩
  · have hu : ¬ τ 0 n = 0 := fun z => h0 (hN.1.1.mpr z)
    have e9 : σ 9 n = τ 6 n := (hN.2.2.1 (σ 1 n - 1) (by omega)).2.2.1
    rw [if_neg h0, if_neg hu, e9, hN.1.2.1]
    by_cases hz : τ 6 n + 1 < 4
    · rw [if_pos hz, if_pos hz]
      exact ⟨rfl, (h.timer hn (by omega)).mono⟩
    · rw [if_neg hz, if_neg hz]
      exact ⟨rfl, (h.form hc hn hu rfl (by omega)).1⟩
theorem Sim.vis (h : Sim c σ τ) (hc : c < 512) {n r : Nat} (hn : n < 5) (hr : σ 1 n = r + 1) : v_a σ n r = u_a τ n (τ 2 n) ∧ y_visOK τ n (τ 2 n) ∧ Sim (c + 1) (v_s5 σ n r) (u_s6 τ n (τ 2 n)) := by
  obtain ⟨a1, a2, a3, a4⟩ := h.rq hn hr 48 (Nat.le_refl _)
  have hr1 : (x_rq n r σ 48).1 1 n = r + 1 := by
    rw [a3]
    exact hr
  have g1 : (y_rq n (τ 2 n) τ 48).1 2 n = τ 2 n := by rw [a4]
  have b := a1.nw hn hr1
  rw [g1] at b
  obtain ⟨b1, b2', b3, b4, b5⟩ := b
  have b1 : Sim c (v_s1 σ n r) (u_s1 τ n (τ 2 n)) := b1
  have hr2 : v_s1 σ n r 1 n = r + 1 := by
    show (x_nw n r 2 (x_rq n r σ 48).1 0).1 1 n = _
    rw [b4]
    exact hr1
  have g2 : u_s1 τ n (τ 2 n) 2 n = τ 2 n := by
    show (y_nw n (τ 2 n) (y_rq n (τ 2 n) τ 48).1 2).1 2 n = _
    rw [b5]
    exact g1
  have er := b1.reach hn (by omega)
  have d1 := b1.mark1 hn hr2 (v := x_reach (v_s1 σ n r) n) (Nat.lt_succ_of_le x_reach_le)
  rw [g2] at d1
  have e13 : v_s1 σ n r 13 r = u_s1 τ n (τ 2 n) 18 (τ 2 n) := by
    have := ((b1.2.2.2.1 n hn).2.2.1 r hr2).2.2.2.2.2.2.1
    rw [g2] at this
    exact this
  have b13 : v_s1 σ n r 13 r < 49 := b1.1.1 13 r
  have eu2 : u_s2 τ n (τ 2 n) = sU (u_s1 τ n (τ 2 n)) 20 (5 * τ 2 n + n) (x_reach (v_s1 σ n r) n) := by
    unfold u_s2
    rw [er]
  have hr3 : sU (v_s1 σ n r) (50 + r) n (x_reach (v_s1 σ n r) n) 1 n = r + 1 := by
    rw [sU_nef (by omega)]
    exact hr2
  have g3 : sU (u_s1 τ n (τ 2 n)) 20 (5 * τ 2 n + n) (x_reach (v_s1 σ n r) n) 2 n = τ 2 n := by
    rw [sU_nef (by decide)]
    exact g2
  have m := d1.mk hn hr3 (v_s1 σ n r 13 r) (by omega)
  rw [g3] at m
  obtain ⟨m1, m2, m3⟩ := m
  have ev2 : v_s2 σ n r = x_mk r n (sU (v_s1 σ n r) (50 + r) n (x_reach (v_s1 σ n r) n)) (v_s1 σ n r 13 r) := rfl
  have eu3 : u_s3 τ n (τ 2 n) = y_mk n (τ 2 n) (sU (u_s1 τ n (τ 2 n)) 20 (5 * τ 2 n + n) (x_reach (v_s1 σ n r) n)) (v_s1 σ n r 13 r) := by
    unfold u_s3
    rw [eu2, sU_nef (f := 20) (g := 18) (by decide), e13]
  have hr4 : v_s2 σ n r 1 n = r + 1 := by
    rw [ev2, m2 1 (by decide)]
    exact hr3
  have g4 : u_s3 τ n (τ 2 n) 2 n = τ 2 n := by
    rw [eu3, m3 2 (by decide)]
    exact g3
  rw [← ev2, ← eu3] at m1
  have el := m1.ls hn hr4 5 (by decide)
  rw [g4] at el
  have l1 := m1.line (n := n) (p := x_least (v_s2 σ n r) r) hn (Nat.lt_succ_of_le (x_ls_le 5))
  have eu4 : u_s4 τ n (τ 2 n) = sU (u_s3 τ n (τ 2 n)) 3 n (x_least (v_s2 σ n r) r) := by
    unfold u_s4 x_least
    rw [el]
  rw [← eu4] at l1
  have l1 : Sim c (v_s3 σ n r) (u_s4 τ n (τ 2 n)) := l1
  have hr5 : v_s3 σ n r 1 n = r + 1 := by
    unfold v_s3
    rw [sU_nef (by decide)]
    exact hr4
  have g5 : u_s4 τ n (τ 2 n) 2 n = τ 2 n := by
    unfold u_s4
    rw [sU_nef (by decide)]
    exact g4
  have k := l1.delR hn hr5 5 (by decide)
  have kOK := l1.dROK hn hr5
  rw [g5] at k kOK
  obtain ⟨k1, k2, k3⟩ := k
  have t1 : Sim c (v_s4 σ n r) (u_s5 τ n (τ 2 n)) := k1.timer (n := n) (p := 0) hn (by decide)
  have hr6 : v_s4 σ n r 1 n = r + 1 := by
    unfold v_s4
    rw [sU_nef (by decide), k2 1 (by decide) (by decide)]
    exact hr5
  have g6 : u_s5 τ n (τ 2 n) 2 n = τ 2 n := by
    unfold u_s5
    rw [sU_nef (by decide), k3 2 (by decide)]
    exact g5
  have es := t1.strangers hn (by omega)
  have u6 : u_s5 τ n (τ 2 n) 0 n ≠ 0 := fun z => by
    have := (t1.2.2.2.1 n hn).1.1.mpr z
    omega
  have e5 : v_s4 σ n r 5 n = u_s5 τ n (τ 2 n) 1 n := (t1.2.2.2.1 n hn).1.2.1
  have ex : sU (v_s4 σ n r) 9 n 0 = v_s4 σ n r := by
    unfold v_s4
    rw [sU_over]
  have ey : sU (u_s5 τ n (τ 2 n)) 6 n 0 = u_s5 τ n (τ 2 n) := by
    unfold u_s5
    rw [sU_over]
  have f := t1.form hc (v := 0) hn u6 rfl (by decide)
  rw [ex, ey] at f
  refine ⟨?_, ⟨b3, kOK, fun _ => f.2⟩, ?_⟩
  · unfold v_a u_a
    rw [a2, b2']
  · unfold v_s5 u_s6
    rw [es, e5]
    by_cases hz : y_str (u_s5 τ n (τ 2 n)) n 5 = true
    · rw [if_pos hz, if_pos hz]
      exact f.1
    · rw [if_neg hz, if_neg hz]
      have p := t1.pass hn hr6
      rw [g6] at p
      exact p.mono
theorem Sim.visit (h : Sim c σ τ) (hc : c < 512) {n : Nat} (hn : n < 5) : (τ 0 n ≠ 0 → τ 17 (τ 2 n) = n + 1 → y_visOK τ n (τ 2 n)) ∧ (a_visit σ n).1 = (b_visit τ n).1 ∧ Sim (c + 1) (a_visit σ n).2 (b_visit τ n).2 := by
  have hN := h.2.2.2.1 n hn
  cases hr : σ 1 n with
  | zero =>
    have h0 : τ 0 n = 0 := hN.1.1.mp hr
    refine ⟨fun z => absurd h0 z, ?_⟩
    simp only [a_visit, b_visit, hr, if_pos h0]
    exact ⟨trivial, h.mono⟩
  | succ r =>
    have h0 : ¬ τ 0 n = 0 := fun z => by
      have := hN.1.1.mpr z
      omega
    have g2 := (hN.2.2.1 r hr).2.2.2.2.2.1
    obtain ⟨v1, v2, v3⟩ := h.vis hc hn hr
    refine ⟨fun _ _ => v2, ?_⟩
    by_cases hz : τ 17 (τ 2 n) = n + 1
    · have ea : a_visit σ n = (nI (v_a σ n r), v_s5 σ n r) := by
        simp only [a_visit, hr]
        exact if_pos (g2.trans hz)
      have eb : b_visit τ n = (nI (u_a τ n (τ 2 n)), u_s6 τ n (τ 2 n)) := by
        unfold b_visit
        rw [if_neg h0, if_pos hz]
      rw [ea, eb]
      dsimp only
      exact ⟨congrArg nI v1, v3⟩
    · have ea : a_visit σ n = (-1, σ) := by
        simp only [a_visit, hr]
        exact if_neg (fun z => hz (g2.symm.trans z))
      have eb : b_visit τ n = (-1, τ) := by
        unfold b_visit
        rw [if_neg h0, if_neg hz]
      rw [ea, eb]
      dsimp only
      exact ⟨rfl, h.mono⟩
theorem sim_ok : SimOK Sim := by
  intro c σ τ hc h
  refine ⟨h.base hc, fun n hn => ?_⟩
  have hN := h.2.2.2.1 n hn
  refine ⟨⟨hN.1.2.2.2, (h.2.2.1 n hn).1.2.2, hN.1.1⟩, fun s hs => h.send hn hs, h.visit hc hn, h.tick hc hn, h.crash hn, h.restart hc hn, fun j hj => h.place hn hj, fun j hj _ => h.deafen hn hj, h.drop hn, h.readers hn, hN.2.1⟩
end VISIT
