/-! 43.first: the relation holds at the start -/
section FIRST
theorem Bx_pos (f : Nat) : 0 < Bx f := by
  unfold Bx
  split <;> first | decide | (split <;> first | decide | (split <;> decide))
theorem By_pos (f : Nat) : 0 < By f := by
  unfold By
  split <;> decide
theorem bX_z : bX σz := fun f _ => Bx_pos f
theorem bY_z : bY τz := fun f i => by
  show (if f = 17 then 1 else 0) < By f
  by_cases h : f = 17
  · subst h
    decide
  · rw [if_neg h]
    exact By_pos f
theorem y_in_s {k : Nat} : y_in (k + 1) = sU (sU (y_in k) 0 k 1) 2 k 1 := rfl
theorem bY_in : ∀ k, bY (y_in k)
  | 0 => bY_sU (bY_sU bY_z (by decide)) (by decide)
  | k + 1 => by
    rw [y_in_s]
    exact bY_sU (bY_sU (bY_in k) (by decide)) (by decide)
theorem y_in_fn {f : Nat} (h : f ≠ 0 ∧ f ≠ 2 ∧ f ≠ 16 ∧ f ≠ 19) : ∀ k, y_in k f = τz f
  | 0 => by
    show sU (sU τz 16 0 1) 19 1 31 f = _
    rw [sU_fn h.2.2.2, sU_fn h.2.2.1]
  | k + 1 => by rw [y_in_s, sU_fn h.2.1, sU_fn h.1, y_in_fn h k]
theorem y_in0 {f : Nat} (h : f ≠ 0 ∧ f ≠ 2 ∧ f ≠ 16 ∧ f ≠ 19 ∧ f ≠ 17) (i : Nat) : y_in 5 f i = 0 := by
  rw [y_in_fn ⟨h.1, h.2.1, h.2.2.1, h.2.2.2.1⟩ 5]
  exact if_neg h.2.2.2.2
theorem sU0 {σ : Nat → Nat → Nat} {g j f i : Nat} (h : σ f i = 0) : sU σ g j 0 f i = 0 := by
  rw [sU_app]
  split
  · rfl
  · exact h
theorem untok0 {σ : Nat → Nat → Nat} {n f i : Nat} (h : σ f i = 0) : x_untok σ n f i = 0 := by
  cases hr : σ 1 n with
  | zero =>
    simp only [x_untok, hr]
    exact h
  | succ r =>
    simp only [x_untok, hr]
    by_cases hz : σ 12 r = n + 1
    · rw [if_pos hz]
      exact sU0 h
    · rw [if_neg hz]
      exact h
theorem enter0 {σ : Nat → Nat → Nat} {n r f i : Nat} (h1 : f ≠ 1) (h : σ f i = 0) : x_enter σ n r f i = 0 := by
  unfold x_enter x_leave
  rw [sU_nef h1]
  exact sU0 (sU0 (sU0 (sU0 (sU0 (untok0 h)))))
theorem ent0 {σ : Nat → Nat → Nat} {mem r f i : Nat} (h1 : f ≠ 1) (h : σ f i = 0) : ∀ k, x_ent mem r σ k f i = 0
  | 0 => h
  | k + 1 => by
    rw [x_ent_s]
    split
    · exact enter0 h1 (ent0 h1 h k)
    · exact ent0 h1 h k
theorem zero0 {σ : Nat → Nat → Nat} {r f i : Nat} (h : σ f i = 0) : ∀ k, x_zero r σ k f i = 0
  | 0 => h
  | k + 1 => by
    rw [x_zero_s]
    exact sU0 (zero0 h k)
theorem first0 {f : Nat} (h : f ≠ 0 ∧ f ≠ 1 ∧ f ≠ 10 ∧ f ≠ 11 ∧ f ≠ 12) (i : Nat) : x_enterNew σz 31 f i = 0 := by
  unfold x_enterNew
  refine ent0 h.2.1 ?_ 5
  unfold x_ring
  refine zero0 (sU0 (sU0 ?_)) 5
  rw [sU_nef h.2.2.2.2, sU_nef h.2.2.2.1, sU_nef h.2.2.1, sU_nef h.1]
  rfl
theorem first1 {n : Nat} (hn : n < 5) : x_enterNew σz 31 1 n = 1 := by
  match n, hn with
  | 0, _ => rfl
  | 1, _ => rfl
  | 2, _ => rfl
  | 3, _ => rfl
  | 4, _ => rfl
theorem firsty {n : Nat} (hn : n < 5) : y_in 5 0 n = 1 ∧ y_in 5 2 n = 1 := by
  match n, hn with
  | 0, _ => exact ⟨rfl, rfl⟩
  | 1, _ => exact ⟨rfl, rfl⟩
  | 2, _ => exact ⟨rfl, rfl⟩
  | 3, _ => exact ⟨rfl, rfl⟩
  | 4, _ => exact ⟨rfl, rfl⟩
theorem sim_0 : Sim 0 (x_enterNew σz 31) (y_in 5) := by
  have x0 : x_enterNew σz 31 0 0 = 1 := rfl
  have x10 : x_enterNew σz 31 10 0 = 1 := rfl
  have x11 : x_enterNew σz 31 11 0 = 31 := rfl
  have x12 : x_enterNew σz 31 12 0 = 1 := rfl
  have y16 : y_in 5 16 0 = 1 := rfl
  have y17 : y_in 5 17 1 = 1 := rfl
  have y19 : y_in 5 19 1 = 31 := rfl
  have y10 : y_in 5 10 0 = 0 := y_in0 (by decide) 0
  refine ⟨⟨bX_enterNew bX_z (by decide) (by decide), bY_in 5, by rw [y16]; decide, by rw [y16]; decide⟩, ?_, ?_, ?_, ?_, ?_⟩
  · refine ⟨fun m a1 a2 => by omega, fun m _ => ⟨y_in0 (by decide) m, y_in0 (by decide) m⟩, fun m k a1 a2 => by omega, fun r q a1 a2 => ?_, fun r _ => ⟨y_in0 (by decide) r, y_in0 (by decide) r, fun k _ => y_in0 (by decide) _⟩, fun r => ?_, fun r => ?_⟩
    · rw [y_in0 (f := 18) (by decide) r] at a2
      omega
    · rw [y_in0 (f := 21) (by decide) r, Nat.zero_testBit]
    · rw [y_in0 (f := 18) (by decide) r]
      exact Nat.zero_le _
  · intro n hn
    obtain ⟨g0, g2⟩ := firsty hn
    refine ⟨⟨by rw [g2]; decide, by rw [g2, y16]; decide, by rw [y_in0 (f := 6) (by decide) n]; decide⟩, fun _ m _ _ z => absurd (y_in0 (f := 7) (by decide) _) z, ?_⟩
    rw [y_in0 (f := 9) (by decide) n]
    exact Nat.zero_le _
  · intro n hn
    obtain ⟨g0, g2⟩ := firsty hn
    rw [first1 hn, g0, g2]
    refine ⟨⟨Iff.rfl, ?_, ?_, ?_⟩, ⟨?_, fun j hj => ?_⟩, fun r hr => ?_, fun _ q => ?_, fun k hk _ _ _ => ?_⟩
    · rw [first0 (by decide) n, y_in0 (by decide) n]
    · rw [first0 (by decide) n, y_in0 (by decide) n]
    · rw [first0 (by decide) n]
      decide
    · rw [first0 (by decide) n, y_in0 (by decide) n]
    · rw [first0 (by decide) n] at hj
      omega
    · have e : r = 0 := by omega
      subst e
      refine ⟨?_, ?_, ?_, x10, by rw [x11, y19], by rw [x12, y17], ?_, ?_, fun k _ => ?_, fun q a1 a2 => ?_⟩
      · rw [first0 (by decide) n, y_in0 (by decide) n]
      · rw [first0 (by decide) n, y_in0 (by decide) n]
      · rw [first0 (by decide) n, y_in0 (by decide) n]
      · rw [first0 (by decide) 0, y_in0 (by decide) 1]
      · rw [first0 (by decide) 0, y_in0 (by decide) 1]
      · rw [first0 (by decide) k, y_in0 (by decide) _]
      · rw [first0 (by decide) 0] at a2
        omega
    · rw [first0 (by decide) n, Nat.zero_testBit]
      have : y_has (y_in 5) n q = false := by
        unfold y_has y_msg
        refine decide_eq_false (fun z => ?_)
        have := z.1
        rw [y10] at this
        exact absurd this (by show ¬ (0 < 0); decide)
      rw [this, Bool.and_false]
    · rw [first1 hk]
  · intro n hn
    rw [first0 (by decide) n, y10]
    exact ⟨rfl, fun i hi => by omega⟩
  · refine ⟨by rw [x0, y16], by rw [first0 (by decide) 0, y10], fun m a1 a2 => by omega, fun m _ => first0 (by decide) m⟩
end FIRST
