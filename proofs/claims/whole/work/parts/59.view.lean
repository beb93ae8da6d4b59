/-! 59.view: what a node's share of a form reads and writes: the class's side -/
section VIEW
variable {s s' s'' : Nat → Nat → Nat}
theorem if_cg {α : Type} {b c : Prop} [Decidable b] [Decidable c] {x y : α} (h : b ↔ c) : (if b then x else y) = if c then x else y := by
  by_cases hc : c
  · rw [if_pos hc, if_pos (h.mpr hc)]
  · rw [if_neg hc, if_neg (fun z => hc (h.mp z))]
/-- the same at node n, and in all that a form's sharing leaves alone, but for the timers -/
def AgX (n : Nat) (s s' : Nat → Nat → Nat) : Prop := (∀ f, f ≠ 2 ∧ f ≠ 4 ∧ f ≠ 6 ∧ f ≠ 7 ∧ f ≠ 9 ∧ (f < 30 ∨ 35 ≤ f) → s f = s' f) ∧ s 2 n = s' 2 n ∧ s 4 n = s' 4 n ∧ s 6 n = s' 6 n ∧ s 7 n = s' 7 n ∧ s (30 + n) = s' (30 + n)
theorem AgX.refl {n : Nat} : AgX n s s := ⟨fun _ _ => rfl, rfl, rfl, rfl, rfl, rfl⟩
theorem AgX.symm {n : Nat} (h : AgX n s s') : AgX n s' s := ⟨fun f hf => (h.1 f hf).symm, h.2.1.symm, h.2.2.1.symm, h.2.2.2.1.symm, h.2.2.2.2.1.symm, h.2.2.2.2.2.symm⟩
theorem AgX.trans {n : Nat} (h : AgX n s s') (g : AgX n s' s'') : AgX n s s'' := ⟨fun f hf => (h.1 f hf).trans (g.1 f hf), h.2.1.trans g.2.1, h.2.2.1.trans g.2.2.1, h.2.2.2.1.trans g.2.2.2.1, h.2.2.2.2.1.trans g.2.2.2.2.1, h.2.2.2.2.2.trans g.2.2.2.2.2⟩
theorem sU_eq {n f g v : Nat} (h : s g n = s' g n) : sU s f n v g n = sU s' f n v g n := by
  rw [sU_app, sU_app, h]
theorem AgX.set {n f v : Nat} (h : AgX n s s') (hf : f = 2 ∨ f = 4 ∨ f = 6 ∨ f = 7) : AgX n (sU s f n v) (sU s' f n v) := by
  obtain ⟨h0, h2, h4, h6, h7, h30⟩ := h
  refine ⟨fun g hg => ?_, sU_eq h2, sU_eq h4, sU_eq h6, sU_eq h7, ?_⟩
  · rw [sU_fn (by omega), sU_fn (by omega)]
    exact h0 g hg
  · rw [sU_fn (by omega), sU_fn (by omega)]
    exact h30
theorem AgX.log {n i e : Nat} (hn : n < 5) (h : AgX n s s') : AgX n (sU s (30 + n) i e) (sU s' (30 + n) i e) := by
  obtain ⟨h0, h2, h4, h6, h7, h30⟩ := h
  refine ⟨fun g hg => ?_, ?_, ?_, ?_, ?_, ?_⟩
  · rw [sU_fn (by omega), sU_fn (by omega)]
    exact h0 g hg
  · rw [sU_fn (by omega), sU_fn (by omega)]
    exact h2
  · rw [sU_fn (by omega), sU_fn (by omega)]
    exact h4
  · rw [sU_fn (by omega), sU_fn (by omega)]
    exact h6
  · rw [sU_fn (by omega), sU_fn (by omega)]
    exact h7
  · funext j
    rw [sU_app, sU_app, h30]
theorem AgX.oset {n k f v : Nat} (hf : f = 2 ∨ f = 4 ∨ f = 6 ∨ f = 7) (hk : k ≠ n) : AgX k s (sU s f n v) := by
  refine ⟨fun g hg => ?_, (sU_nei hk).symm, (sU_nei hk).symm, (sU_nei hk).symm, (sU_nei hk).symm, ?_⟩
  · rw [sU_fn (by omega)]
  · rw [sU_fn (by omega)]
theorem AgX.olog {n k i e : Nat} (hn : n < 5) (hk : k ≠ n) : AgX k s (sU s (30 + n) i e) := by
  refine ⟨fun g hg => ?_, ?_, ?_, ?_, ?_, ?_⟩ <;> rw [sU_fn (by omega)]
theorem AgX.app {n e : Nat} (hn : n < 5) (h : AgX n s s') : AgX n (x_app s n e) (x_app s' n e) := by
  unfold x_app
  rw [← h.2.2.1]
  by_cases hz : s 4 n < 48
  · rw [if_pos hz, if_pos hz]
    exact (h.log hn).set (by omega)
  · rw [if_neg hz, if_neg hz]
    exact h
theorem AgX.oapp {n k e : Nat} (hn : n < 5) (hk : k ≠ n) : AgX k s (x_app s n e) := by
  unfold x_app
  split
  · exact (AgX.olog hn hk).trans (AgX.oset (by omega) hk)
  · exact AgX.refl
theorem AgX.del {n r : Nat} (hn : n < 5) : ∀ (j : Nat) {s s' : Nat → Nat → Nat}, AgX n s s' → AgX n (x_del n r j s) (x_del n r j s')
  | 0, _, _, h => h
  | j + 1, s, s', h => by
    have e7 : s 7 n = s' 7 n := h.2.2.2.2.1
    have e40 : s (40 + r) = s' (40 + r) := h.1 _ (by omega)
    have ed : x_dl s n r (s 7 n + 1) = x_dl s' n r (s' 7 n + 1) := by
      unfold x_dl
      rw [h.2.1, h.2.2.2.1, e7, e40, h.1 61 (by omega)]
    unfold x_del
    rw [ed]
    by_cases hz : x_dl s' n r (s' 7 n + 1) = true
    · rw [if_pos hz, if_pos hz, e40, e7]
      exact AgX.del hn j ((h.app hn).set (by omega))
    · rw [if_neg hz, if_neg hz]
      exact h
theorem AgX.odel {n k r : Nat} (hn : n < 5) (hk : k ≠ n) : ∀ (j : Nat) {s : Nat → Nat → Nat}, AgX k s (x_del n r j s)
  | 0, _ => AgX.refl
  | j + 1, s => by
    unfold x_del
    split
    · exact ((AgX.oapp hn hk).trans (AgX.oset (by omega) hk)).trans (AgX.odel hn hk j)
    · exact AgX.refl
theorem AgX.tr {n r c : Nat} (hn : n < 5) : ∀ (j i : Nat) (g : Bool) {s s' : Nat → Nat → Nat}, AgX n s s' → AgX n (x_tr n r c j i g s) (x_tr n r c j i g s')
  | 0, _, _, _, _, h => h
  | j + 1, i, g, s, s', h => by
    have e40 : s (40 + r) = s' (40 + r) := h.1 _ (by omega)
    have e60 : s 60 = s' 60 := h.1 _ (by omega)
    unfold x_tr
    rw [h.2.1, e40, e60]
    by_cases hz : (s' 2 n).testBit i = true
    · rw [if_pos hz, if_pos hz]
      by_cases hy : g = false ∨ c.testBit (s' 60 (s' (40 + r) i)) = true
      · rw [if_pos hy, if_pos hy]
        exact AgX.tr hn j _ _ (h.app hn)
      · rw [if_neg hy, if_neg hy]
        exact AgX.tr hn j _ _ h
    · rw [if_neg hz, if_neg hz]
      exact AgX.tr hn j _ _ h
theorem AgX.otr {n k r c : Nat} (hn : n < 5) (hk : k ≠ n) : ∀ (j i : Nat) (g : Bool) {s : Nat → Nat → Nat}, AgX k s (x_tr n r c j i g s)
  | 0, _, _, _ => AgX.refl
  | j + 1, i, g, s => by
    unfold x_tr
    split
    · split
      · exact (AgX.oapp hn hk).trans (AgX.otr hn hk j _ _)
      · exact AgX.otr hn hk j _ _
    · exact AgX.otr hn hk j _ _
/-- one node's share -/
def x_n1 (r c h l n : Nat) (s : Nat → Nat → Nat) : Nat → Nat → Nat := x_tr n r c (48 - x_l1 r c h l n s 7 n) (x_l1 r c h l n s 7 n + 1) false (x_l1 r c h l n s)
theorem AgX.l1 {n r c h l : Nat} (hn : n < 5) (g : AgX n s s') : AgX n (x_l1 r c h l n s) (x_l1 r c h l n s') := by
  have g1 : AgX n (sU (sU s 2 n h) 6 n l) (sU (sU s' 2 n h) 6 n l) := (g.set (by omega)).set (by omega)
  unfold x_l1
  rw [g1.2.2.2.2.1]
  exact g1.del hn _
theorem AgX.n1 {n r c h l : Nat} (hn : n < 5) (g : AgX n s s') : AgX n (x_n1 r c h l n s) (x_n1 r c h l n s') := by
  have g1 := g.l1 (r := r) (c := c) (h := h) (l := l) hn
  unfold x_n1
  rw [g1.2.2.2.2.1]
  exact g1.tr hn _ _ _
theorem AgX.on1 {n k r c h l : Nat} (hn : n < 5) (hk : k ≠ n) : AgX k s (x_n1 r c h l n s) := by
  unfold x_n1 x_l1
  exact (((AgX.oset (by omega) hk).trans (AgX.oset (by omega) hk)).trans (AgX.odel hn hk _)).trans (AgX.otr hn hk _ _ _)
theorem AgX.l2 {r c h l n : Nat} (hn : n < 5) : ∀ k, k ≤ 5 → AgX n (if n < k ∧ c.testBit n = true then x_n1 r c h l n s else s) (x_l2 r c h l s k)
  | 0, _ => by
    rw [if_neg (by omega)]
    exact AgX.refl
  | k + 1, hk => by
    have ih := AgX.l2 (r := r) (c := c) (h := h) (l := l) hn k (by omega)
    have ex : x_l2 r c h l s (k + 1) = if c.testBit k = true then x_n1 r c h l k (x_l2 r c h l s k) else x_l2 r c h l s k := rfl
    rw [ex]
    by_cases hz : c.testBit k = true
    · rw [if_pos hz]
      by_cases e : n = k
      · subst e
        rw [if_neg (by omega)] at ih
        rw [if_pos ⟨by omega, hz⟩]
        exact ih.n1 hn
      · have e1 : (n < k + 1 ∧ c.testBit n = true) ↔ (n < k ∧ c.testBit n = true) := ⟨fun z => ⟨by omega, z.2⟩, fun z => ⟨by omega, z.2⟩⟩
        rw [if_cg e1]
        exact ih.trans (AgX.on1 (by omega) e)
    · rw [if_neg hz]
      have e1 : (n < k + 1 ∧ c.testBit n = true) ↔ (n < k ∧ c.testBit n = true) := ⟨fun z => ⟨by
        have : n ≠ k := fun y => hz (y ▸ z.2)
        omega, z.2⟩, fun z => ⟨by omega, z.2⟩⟩
      rw [if_cg e1]
      exact ih
/-- the group's hold and line -/
theorem x_lh_keep {c : Nat} : ∀ k, k ≤ 5 → (∀ n, n < 5 → c.testBit n = true → AgX n s s') → x_lh s' c k = x_lh s c k
  | 0, _, _ => rfl
  | k + 1, hk, h => by
    rw [x_lh_s, x_lh_s, x_lh_keep k (by omega) h]
    by_cases hz : c.testBit k = true
    · rw [if_pos hz, if_pos hz, (h k (by omega) hz).2.1]
    · rw [if_neg hz, if_neg hz]
theorem x_ll_keep {c : Nat} : ∀ k, k ≤ 5 → (∀ n, n < 5 → c.testBit n = true → AgX n s s') → x_ll s' c k = x_ll s c k
  | 0, _, _ => rfl
  | k + 1, hk, h => by
    rw [x_ll_s, x_ll_s, x_ll_keep k (by omega) h]
    by_cases hz : c.testBit k = true
    · rw [if_pos hz, if_pos hz, (h k (by omega) hz).2.2.2.1]
    · rw [if_neg hz, if_neg hz]
theorem x_nodes_keep {r : Nat} (h : s 1 = s' 1) : ∀ k, x_nodes s r k = x_nodes s' r k
  | 0 => rfl
  | k + 1 => by rw [x_nodes_s, x_nodes_s, h, x_nodes_keep h k]
/-- the nodes of the form that are in the object r -/
def x_C (s : Nat → Nat → Nat) (mem r : Nat) : Nat := x_nodes s r 5 &&& mem
theorem x_C_bit {mem r n : Nat} : (x_C s mem r).testBit n = true ↔ (n < 5 ∧ s 1 n = r + 1 ∧ mem.testBit n = true) := by
  unfold x_C
  rw [Nat.testBit_and, x_nodes_bit, Bool.and_eq_true]
  constructor
  · intro z
    have := of_decide_eq_true z.1
    exact ⟨this.1, this.2, z.2⟩
  · intro z
    exact ⟨decide_eq_true ⟨z.1, z.2.1⟩, z.2.2⟩
/-- what becomes of a node of the form -/
def x_N (mem n : Nat) (s : Nat → Nat → Nat) : Nat → Nat → Nat := x_n1 (s 1 n - 1) (x_C s mem (s 1 n - 1)) (x_lh s (x_C s mem (s 1 n - 1)) 5) (x_ll s (x_C s mem (s 1 n - 1)) 5) n s
theorem AgX.f6 {mem : Nat} : ∀ k, k ≤ 6 → ∀ n, n < 5 → AgX n (if mem.testBit n = true ∧ s 1 n ≠ 0 ∧ s 1 n ≤ k then x_N mem n s else s) (x_f6 mem s k)
  | 0, _, n, _ => by
    rw [if_neg (by omega)]
    exact AgX.refl
  | k + 1, hk, n, hn => by
    have ih := AgX.f6 (mem := mem) k (by omega)
    have e1 : x_f6 mem s k 1 = s 1 := funext fun _ => x_f6_ne (by decide) (by decide) (by decide) (by decide) (by omega) k
    have ec : x_nodes (x_f6 mem s k) k 5 &&& mem = x_C s mem k := by
      unfold x_C
      rw [x_nodes_keep e1]
    have ex : x_f6 mem s (k + 1) = if x_C s mem k ≠ 0 then x_left (x_f6 mem s k) k (x_C s mem k) else x_f6 mem s k := by
      rw [x_f6_s, ec]
    have hC : ∀ m, m < 5 → (x_C s mem k).testBit m = true → AgX m s (x_f6 mem s k) := fun m hm hb => by
      have := ih m hm
      rw [if_neg (fun z => by have := (x_C_bit.mp hb).2.1; omega)] at this
      exact this
    rw [ex]
    by_cases hb : (x_C s mem k).testBit n = true
    · have hb' := x_C_bit.mp hb
      have nz : x_C s mem k ≠ 0 := fun z => by
        rw [z, Nat.zero_testBit] at hb
        exact absurd hb (by decide)
      rw [if_pos nz, if_pos ⟨hb'.2.2, by omega, by omega⟩]
      have g1 := AgX.l2 (r := k) (c := x_C s mem k) (h := x_lh s (x_C s mem k) 5) (l := x_ll s (x_C s mem k) 5) (s := x_f6 mem s k) hn 5 (by decide)
      rw [if_pos ⟨hn, hb⟩] at g1
      unfold x_left
      rw [x_lh_keep 5 (by decide) hC, x_ll_keep 5 (by decide) hC]
      refine AgX.trans ?_ g1
      have e2 : s 1 n - 1 = k := by omega
      unfold x_N
      rw [e2]
      exact (hC n hn hb).n1 hn
    · have e2 : (mem.testBit n = true ∧ s 1 n ≠ 0 ∧ s 1 n ≤ k + 1) ↔ (mem.testBit n = true ∧ s 1 n ≠ 0 ∧ s 1 n ≤ k) := ⟨fun z => ⟨z.1, z.2.1, by
        have : s 1 n ≠ k + 1 := fun y => hb (x_C_bit.mpr ⟨hn, y, z.1⟩)
        omega⟩, fun z => ⟨z.1, z.2.1, by omega⟩⟩
      rw [if_cg e2]
      refine (ih n hn).trans ?_
      split
      · have g1 := AgX.l2 (r := k) (c := x_C s mem k) (h := x_lh (x_f6 mem s k) (x_C s mem k) 5) (l := x_ll (x_f6 mem s k) (x_C s mem k) 5) (s := x_f6 mem s k) hn 5 (by decide)
        rw [if_neg (fun z => hb z.2)] at g1
        exact g1
      · exact AgX.refl
end VIEW
