/-! 10.bound: how large the numbers of the class's state are -/
section BOUND
def Bx (f : Nat) : Nat := match f with
  | 0 => 600
  | 1 => 7
  | 2 => 2 ^ 49
  | 3 => 9
  | 4 => 49
  | 5 => 3
  | 6 => 49
  | 7 => 49
  | 8 => 21
  | 9 => 5
  | 10 => 600
  | 11 => 32
  | 12 => 6
  | 13 => 49
  | 14 => 2 ^ 49
  | 15 => 49
  | 60 => 5
  | 61 => 2
  | 62 => 2 ^ 17
  | k => if k < 30 then 49 else if k < 40 then 98 else 49
def bX (σ : Nat → Nat → Nat) : Prop := ∀ f i, σ f i < Bx f
theorem sU_app {σ : Nat → Nat → Nat} {f i v g j : Nat} : sU σ f i v g j = if g = f ∧ j = i then v else σ g j := rfl
theorem bX_sU {σ : Nat → Nat → Nat} {f i v : Nat} (h : bX σ) (hv : v < Bx f) : bX (sU σ f i v) := by
  intro g j
  rw [sU_app]
  split
  · rename_i q
    rw [q.1]
    exact hv
  · exact h g j
theorem bX_it {f : Nat → (Nat → Nat → Nat) → (Nat → Nat → Nat)} {σ : Nat → Nat → Nat} {N : Nat} (h : bX σ) (hs : ∀ k s, k < N → bX s → bX (f k s)) : ∀ k, k ≤ N → bX (it f σ k)
  | 0, _ => h
  | k + 1, hk => hs k _ (by omega) (bX_it h hs k (by omega))
theorem Bx_q {n : Nat} (hn : n < 5) : Bx (20 + n) = 49 := by
  rcases (show n = 0 ∨ n = 1 ∨ n = 2 ∨ n = 3 ∨ n = 4 by omega) with rfl | rfl | rfl | rfl | rfl <;> rfl
theorem Bx_e {n : Nat} (hn : n < 5) : Bx (30 + n) = 98 := by
  rcases (show n = 0 ∨ n = 1 ∨ n = 2 ∨ n = 3 ∨ n = 4 by omega) with rfl | rfl | rfl | rfl | rfl <;> rfl
theorem Bx_a {r : Nat} (hr : r < 6) : Bx (40 + r) = 49 := by
  rcases (show r = 0 ∨ r = 1 ∨ r = 2 ∨ r = 3 ∨ r = 4 ∨ r = 5 by omega) with rfl | rfl | rfl | rfl | rfl | rfl <;> rfl
theorem Bx_k {r : Nat} (hr : r < 6) : Bx (50 + r) = 49 := by
  rcases (show r = 0 ∨ r = 1 ∨ r = 2 ∨ r = 3 ∨ r = 4 ∨ r = 5 by omega) with rfl | rfl | rfl | rfl | rfl | rfl <;> rfl
theorem or_pow_lt {a q : Nat} (ha : a < 2 ^ 49) (hq : q < 49) : a ||| 2 ^ q < 2 ^ 49 := Nat.or_lt_two_pow ha (Nat.pow_lt_pow_right (by decide) hq)
theorem bX_hold {σ : Nat → Nat → Nat} {n q : Nat} (h : bX σ) (hq : q < 49) : bX (x_hold σ n q) := bX_sU h (or_pow_lt (h 2 n) hq)
theorem bX_recv {σ : Nat → Nat → Nat} {n q : Nat} (h : bX σ) (hq : q < 49) : bX (x_recv σ n q) := by
  unfold x_recv
  split
  · exact bX_sU h (Nat.lt_of_le_of_lt (Nat.sub_le _ _) (h 8 n))
  · exact bX_hold h hq
theorem rch_le (h : Nat → Bool) : ∀ (k a : Nat), rch h k a ≤ a + k
  | 0, a => Nat.le_refl _
  | k + 1, a => by
    unfold rch
    split
    · have := rch_le h k (a + 1)
      omega
    · omega
theorem x_reach_le {σ : Nat → Nat → Nat} {n : Nat} : x_reach σ n ≤ 48 := by
  have := rch_le (fun q => (σ 2 n).testBit q) 48 0
  unfold x_reach
  omega
end BOUND
