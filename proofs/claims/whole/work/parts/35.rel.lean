/-! 35.rel: the relation between the class's state σ and the reference's τ, c calls behind the start; what the readers need of it -/
section REL
/-- how many of 1 .. k have p -/
def cn (p : Nat → Bool) (k : Nat) : Nat := it (fun i c => c + b2 (p (i + 1))) 0 k
theorem cn_s {p : Nat → Bool} {k : Nat} : cn p (k + 1) = cn p k + b2 (p (k + 1)) := rfl
theorem cn_le {p : Nat → Bool} : ∀ k, cn p k ≤ k
  | 0 => Nat.le_refl _
  | k + 1 => by
    rw [cn_s]
    have := cn_le (p := p) k
    have := b2_le (p (k + 1))
    omega
theorem b2_t {c : Bool} (h : c = true) : b2 c = 1 := by rw [h]; rfl
theorem b2_f {c : Bool} (h : c = false) : b2 c = 0 := by rw [h]; rfl
theorem cn_mono {p q : Nat → Bool} : ∀ k, (∀ m, 1 ≤ m → m ≤ k → p m = true → q m = true) → cn p k ≤ cn q k
  | 0, _ => Nat.le_refl _
  | k + 1, h => by
    rw [cn_s, cn_s]
    have h1 := cn_mono k (fun m a c => h m a (by omega))
    have h2 := h (k + 1) (by omega) (Nat.le_refl _)
    cases hp : p (k + 1)
    · have : b2 false = 0 := rfl
      omega
    · rw [h2 hp]
      omega
theorem cn_congr {p q : Nat → Bool} : ∀ k, (∀ m, 1 ≤ m → m ≤ k → p m = q m) → cn p k = cn q k
  | 0, _ => rfl
  | k + 1, h => by rw [cn_s, cn_s, cn_congr k (fun m a c => h m a (by omega)), h (k + 1) (by omega) (Nat.le_refl _)]
/-- one more is counted, at least -/
theorem cn_lt {p q : Nat → Bool} {m : Nat} (hm : 1 ≤ m) (hp : p m = false) (hq : q m = true) : ∀ k, m ≤ k → (∀ j, 1 ≤ j → j ≤ k → p j = true → q j = true) → cn p k < cn q k
  | 0, hk, _ => by omega
  | k + 1, hk, h => by
    rw [cn_s, cn_s]
    by_cases e : m = k + 1
    · subst e
      have h1 := cn_mono k (fun j a c => h j a (by omega))
      rw [hp, hq]
      show cn p k + 0 < cn q k + 1
      omega
    · have h1 := cn_lt hm hp hq k (by omega) (fun j a c => h j a (by omega))
      have h2 := h (k + 1) (by omega) (Nat.le_refl _)
      cases hp1 : p (k + 1)
      · have : b2 false = 0 := rfl
        omega
      · rw [h2 hp1]
        omega
def cntN (τ : Nat → Nat → Nat) : Nat := cn (fun m => decide (τ 15 m ≠ 0)) (τ 10 0)
def cntB (τ : Nat → Nat → Nat) (r q : Nat) : Nat := cn (fun m => decide (τ 15 m ≠ 0 ∧ (τ 14 m < r ∨ (τ 14 m = r ∧ τ 15 m ≤ q)))) (τ 10 0)
/-- the messages and the rings of the reference -/
def InvM (τ : Nat → Nat → Nat) : Prop :=
  (∀ m, 1 ≤ m → m ≤ τ 10 0 → τ 15 m ≠ 0 → 1 ≤ τ 14 m ∧ τ 14 m ≤ τ 16 0 ∧ τ 15 m ≤ τ 18 (τ 14 m)) ∧
  (∀ m, τ 10 0 < m → τ 15 m = 0 ∧ τ 13 m = 0) ∧
  (∀ m k, 1 ≤ m → m ≤ τ 10 0 → 1 ≤ k → k ≤ τ 10 0 → τ 15 m ≠ 0 → τ 15 m = τ 15 k → τ 14 m = τ 14 k → m = k) ∧
  (∀ r q, 1 ≤ q → q ≤ τ 18 r → ∃ m, 1 ≤ m ∧ m ≤ τ 10 0 ∧ τ 15 m = q ∧ τ 14 m = r) ∧
  (∀ r, τ 16 0 < r → τ 18 r = 0 ∧ τ 21 r = 0 ∧ ∀ k, k < 5 → τ 20 (5 * r + k) = 0) ∧
  (∀ r, (τ 21 r).testBit 0 = false) ∧
  (∀ r, τ 18 r ≤ cntN τ)
/-- the nodes of the reference -/
def InvN (τ : Nat → Nat → Nat) : Prop := ∀ n, n < 5 →
  (1 ≤ τ 2 n ∧ τ 2 n ≤ τ 16 0 ∧ τ 6 n ≤ 3) ∧
  (τ 0 n ≠ 0 → ∀ m, 1 ≤ m → m ≤ 48 → τ 7 (49 * n + m) ≠ 0 → m ≤ τ 10 0 ∧ τ 15 m ≠ 0 ∧ τ 14 m = τ 2 n) ∧
  τ 9 n ≤ cntB τ (τ 2 n) (τ 4 n)
/-- the ring object r is the reference's ring g -/
def Rg (σ τ : Nat → Nat → Nat) (r g : Nat) : Prop :=
  σ 10 r = g ∧ σ 11 r = τ 19 g ∧ σ 12 r = τ 17 g ∧ σ 13 r = τ 18 g ∧ σ 14 r = τ 21 g ∧ (∀ k, k < 5 → σ (50 + r) k = τ 20 (5 * g + k)) ∧ ∀ q, 1 ≤ q → q ≤ σ 13 r → σ (40 + r) q = y_msg τ g q
def RelN (σ τ : Nat → Nat → Nat) : Prop := ∀ n, n < 5 →
  ((σ 1 n = 0 ↔ τ 0 n = 0) ∧ σ 5 n = τ 1 n ∧ σ 8 n = τ 5 n ∧ σ 9 n ≤ 3) ∧
  (σ 4 n = τ 9 n ∧ ∀ j, j < σ 4 n → σ (30 + n) j = τ 8 (48 * n + j)) ∧
  (∀ r, σ 1 n = r + 1 → σ 6 n = τ 3 n ∧ σ 7 n = τ 4 n ∧ σ 9 n = τ 6 n ∧ Rg σ τ r (τ 2 n)) ∧
  (σ 1 n ≠ 0 → ∀ q, (σ 2 n).testBit q = (decide (1 ≤ q) && y_has τ n q)) ∧
  (∀ k, k < 5 → σ 1 n ≠ 0 → σ 1 k ≠ 0 → τ 2 n = τ 2 k → σ 1 n = σ 1 k)
/-- the queues: the waiting messages in their order -/
def RelQ (σ τ : Nat → Nat → Nat) : Prop := ∀ n, n < 5 → σ 3 n = y_qd τ n (τ 10 0) ∧ ∀ i, i < σ 3 n → 1 ≤ σ (20 + n) i ∧ σ (20 + n) i ≤ τ 10 0 ∧ y_wait τ n (σ (20 + n) i) = true ∧ y_qd τ n (σ (20 + n) i) = i + 1
def RelM (σ τ : Nat → Nat → Nat) : Prop := σ 0 0 = τ 16 0 ∧ σ 15 0 = τ 10 0 ∧ (∀ m, 1 ≤ m → m ≤ τ 10 0 → σ 60 m = τ 11 m ∧ σ 61 m = τ 12 m ∧ σ 62 m = b_stamp τ m) ∧ ∀ m, τ 10 0 < m → σ 62 m = 0
def Sim (c : Nat) (σ τ : Nat → Nat → Nat) : Prop := (bX σ ∧ bY τ ∧ 1 ≤ τ 16 0 ∧ τ 16 0 ≤ c + 1) ∧ InvM τ ∧ InvN τ ∧ RelN σ τ ∧ RelQ σ τ ∧ RelM σ τ
variable {c : Nat} {σ τ : Nat → Nat → Nat}
theorem Sim.mono (h : Sim c σ τ) : Sim (c + 1) σ τ := ⟨⟨h.1.1, h.1.2.1, h.1.2.2.1, by have := h.1.2.2.2; omega⟩, h.2⟩
theorem rch_congr {f g : Nat → Bool} : ∀ (k a : Nat), (∀ q, a < q → q ≤ a + k → f q = g q) → rch f k a = rch g k a
  | 0, _, _ => rfl
  | k + 1, a, h => by
    unfold rch
    rw [h (a + 1) (by omega) (by omega), rch_congr k (a + 1) (fun q h1 h2 => h q (by omega) (by omega))]
theorem Sim.reach (h : Sim c σ τ) {n : Nat} (hn : n < 5) (hu : σ 1 n ≠ 0) : x_reach σ n = y_reach τ n := by
  unfold x_reach y_reach
  refine rch_congr 48 0 (fun q h1 _ => ?_)
  rw [(h.2.2.2.1 n hn).2.2.2.1 hu q, decide_eq_true (show 1 ≤ q by omega), Bool.true_and]
/-- the readers -/
theorem Sim.readers (h : Sim c σ τ) {n : Nat} (hn : n < 5) : a_ring σ n = b_ring τ n ∧ a_members σ n = b_members τ n ∧ a_token σ n = b_token τ n ∧ a_last σ n = b_last τ n ∧ a_requests σ n = b_requests τ n ∧ a_reach σ n = b_reach τ n ∧ a_line σ n = b_line τ n ∧ a_waiting σ n = b_waiting τ n := by
  have hN := h.2.2.2.1 n hn
  have hQ := h.2.2.2.2.1 n hn
  cases hr : σ 1 n with
  | zero =>
    have h0 : τ 0 n = 0 := hN.1.1.mp hr
    simp only [a_ring, b_ring, a_members, b_members, a_token, b_token, a_last, b_last, a_requests, b_requests, a_reach, b_reach, a_line, b_line, a_waiting, b_waiting, hr, h0, if_true, and_self]
  | succ r =>
    have hu : σ 1 n ≠ 0 := by omega
    have h0 : ¬ τ 0 n = 0 := fun z => hu (hN.1.1.mpr z)
    obtain ⟨h6, h7, h9, g0, g1, g2, g3, g4, g5, g6⟩ := hN.2.2.1 r hr
    have hrc := h.reach hn hu
    have h21 : τ 21 (τ 2 n) < 2 ^ 49 := h.1.2.1 21 _
    have hsw := swar_cnt h21 (h.2.1.2.2.2.2.2.1 (τ 2 n))
    refine ⟨?_, ?_, ?_, ?_, ?_, ?_, ?_, ?_⟩
    · simp only [a_ring, b_ring, hr, if_neg h0, g0]
    · simp only [a_members, b_members, hr, if_neg h0, g1]
    · simp only [a_token, b_token, hr, if_neg h0, g2]
      by_cases hz : τ 17 (τ 2 n) = 0
      · rw [if_pos hz, hz]
        decide
      · rw [if_neg hz]
    · simp only [a_last, b_last, hr, if_neg h0, g2, g3]
    · simp only [a_requests, b_requests, hr, if_neg h0, g2, g4, hsw]
    · simp only [a_reach, b_reach, if_neg hu, if_neg h0, hrc]
    · simp only [a_line, b_line, if_neg hu, if_neg h0, h6]
    · simp only [a_waiting, b_waiting, if_neg hu, if_neg h0, hQ.1]
theorem Sim.base (h : Sim c σ τ) (hc : c < 512) : bX σ ∧ bY τ ∧ σ 0 0 + 1 < 600 ∧ τ 16 0 + 1 < 520 ∧ Sim (c + 1) σ τ ∧ σ 15 0 = τ 10 0 ∧ ∀ j, 1 ≤ j → j ≤ σ 15 0 → σ 62 j = b_stamp τ j := by
  have h1 := h.1.2.2.2
  have h2 := h.2.2.2.2.2
  refine ⟨h.1.1, h.1.2.1, by rw [h2.1]; omega, by omega, h.mono, h2.2.1, fun j a1 a2 => (h2.2.2.1 j a1 (by rw [← h2.2.1]; exact a2)).2.2⟩
end REL
