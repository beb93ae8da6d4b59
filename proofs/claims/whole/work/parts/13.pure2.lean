/-! 13.pure2: what the class's own private methods do, on its state -/
section PURE2
def x_nodes (σ : Nat → Nat → Nat) (r k : Nat) : Nat := it (fun n a => if σ 1 n = r + 1 then a ||| 2 ^ n else a) 0 k
def x_upin (σ : Nat → Nat → Nat) (a k : Nat) : Nat := it (fun n c => if σ 1 n ≠ 0 ∧ σ 5 n = a then c ||| 2 ^ n else c) 0 k
def x_unf (σ : Nat → Nat → Nat) : Nat → Nat → Nat
  | 0, _ => 5
  | j + 1, i => if x_nodes σ i 5 = 0 then i else x_unf σ j (i + 1)
def x_unused (σ : Nat → Nat → Nat) : Nat := x_unf σ 5 0
def x_ent (mem r : Nat) (σ : Nat → Nat → Nat) (k : Nat) : Nat → Nat → Nat := it (fun n s => if mem.testBit n = true then x_enter s n r else s) σ k
def x_enterNew (σ : Nat → Nat → Nat) (mem : Nat) : Nat → Nat → Nat := x_ent mem (x_unused σ) (x_ring (sU σ 0 0 (σ 0 0 + 1)) (x_unused σ) (σ 0 0 + 1) mem) 5
def x_bc (n q : Nat) (σ : Nat → Nat → Nat) (k : Nat) : Nat → Nat → Nat := it (fun k s => if k ≠ n ∧ x_hear s n k = true then x_recv s k q else s) σ k
def x_bcast (σ : Nat → Nat → Nat) (n q : Nat) : Nat → Nat → Nat := x_bc n q (x_hold σ n q) 5
def x_dl (σ : Nat → Nat → Nat) (n r q : Nat) : Bool := (σ 2 n).testBit q && (decide (q ≤ σ 6 n) || decide (σ 61 (σ (40 + r) q) = 0))
def x_del (n r : Nat) : Nat → (Nat → Nat → Nat) → Nat → Nat → Nat
  | 0, s => s
  | j + 1, s => if x_dl s n r (s 7 n + 1) = true then x_del n r j (sU (x_app s n (2 * s (40 + r) (s 7 n + 1))) 7 n (s 7 n + 1)) else s
def x_delR (r : Nat) (σ : Nat → Nat → Nat) (k : Nat) : Nat → Nat → Nat := it (fun n s => if s 1 n = r + 1 then x_del n r (48 - s 7 n) s else s) σ k
def x_st (σ : Nat → Nat → Nat) (n : Nat) : Nat → Nat → Bool
  | 0, _ => false
  | j + 1, i => if σ 1 i ≠ 0 ∧ σ 5 i = σ 5 n ∧ σ 1 i ≠ σ 1 n then true else x_st σ n j (i + 1)
def x_pass (σ : Nat → Nat → Nat) (n r : Nat) : Nat → Nat → Nat := sU σ 12 r (if x_hear σ n (x_after (σ 11 r) n) = true then x_after (σ 11 r) n + 1 else 0)
def x_tr (n r c : Nat) : Nat → Nat → Bool → (Nat → Nat → Nat) → Nat → Nat → Nat
  | 0, _, _, s => s
  | j + 1, i, g, s => if (s 2 n).testBit i = true then x_tr n r c j (i + 1) g (if g = false ∨ c.testBit (s 60 (s (40 + r) i)) = true then x_app s n (2 * s (40 + r) i + 1) else s) else x_tr n r c j (i + 1) true s
def x_lh (σ : Nat → Nat → Nat) (c k : Nat) : Nat := it (fun n h => if c.testBit n = true then h ||| σ 2 n else h) 0 k
def x_ll (σ : Nat → Nat → Nat) (c k : Nat) : Nat := it (fun n l => if c.testBit n = true then max l (σ 6 n) else l) 0 k
def x_l1 (r c h l n : Nat) (s : Nat → Nat → Nat) : Nat → Nat → Nat := x_del n r (48 - sU (sU s 2 n h) 6 n l 7 n) (sU (sU s 2 n h) 6 n l)
def x_l2 (r c h l : Nat) (σ : Nat → Nat → Nat) (k : Nat) : Nat → Nat → Nat := it (fun n s => if c.testBit n = true then x_tr n r c (48 - x_l1 r c h l n s 7 n) (x_l1 r c h l n s 7 n + 1) false (x_l1 r c h l n s) else s) σ k
def x_left (σ : Nat → Nat → Nat) (r c : Nat) : Nat → Nat → Nat := x_l2 r c (x_lh σ c 5) (x_ll σ c 5) σ 5
def x_f6 (mem : Nat) (σ : Nat → Nat → Nat) (k : Nat) : Nat → Nat → Nat := it (fun r s => if x_nodes s r 5 &&& mem ≠ 0 then x_left s r (x_nodes s r 5 &&& mem) else s) σ k
def x_form (σ : Nat → Nat → Nat) (a : Nat) : Nat → Nat → Nat := x_enterNew (x_f6 (x_upin σ a 5) σ 6) (x_upin σ a 5)
def x_rq (n r : Nat) (σ : Nat → Nat → Nat) (k : Nat) : (Nat → Nat → Nat) × Nat := it (fun i p => if (p.1 14 r).testBit (i + 1) = true ∧ (p.1 2 n).testBit (i + 1) = true then (x_bcast (x_offreq p.1 r (i + 1)) n (i + 1), p.2 + 1) else p) (σ, 0) k
def x_nw1 (n r : Nat) (σ : Nat → Nat → Nat) : Nat → Nat → Nat := x_bcast (sU (sU (sU (x_deq σ n) 13 r (σ 13 r + 1)) (40 + r) (σ 13 r + 1) (σ (20 + n) 0)) 62 (σ (20 + n) 0) (64 * σ 10 r + (σ 13 r + 1))) n (σ 13 r + 1)
def x_nw (n r : Nat) : Nat → (Nat → Nat → Nat) → Nat → (Nat → Nat → Nat) × Nat
  | 0, s, c => (s, c)
  | j + 1, s, c => if 0 < s 3 n ∧ s 13 r < 48 then x_nw n r j (x_nw1 n r s) (c + 1) else (s, c)
theorem x_nodes_s {σ : Nat → Nat → Nat} {r k : Nat} : x_nodes σ r (k + 1) = if σ 1 k = r + 1 then x_nodes σ r k ||| 2 ^ k else x_nodes σ r k := rfl
theorem x_upin_s {σ : Nat → Nat → Nat} {a k : Nat} : x_upin σ a (k + 1) = if σ 1 k ≠ 0 ∧ σ 5 k = a then x_upin σ a k ||| 2 ^ k else x_upin σ a k := rfl
theorem or_pow_lt' {a k : Nat} (h : a < 2 ^ k) : a ||| 2 ^ k < 2 ^ (k + 1) := Nat.or_lt_two_pow (Nat.lt_of_lt_of_le h (Nat.pow_le_pow_right (by decide) (Nat.le_succ k))) (Nat.pow_lt_pow_right (by decide) (Nat.lt_succ_self k))
theorem lt_pow_s {a k : Nat} (h : a < 2 ^ k) : a < 2 ^ (k + 1) := Nat.lt_of_lt_of_le h (Nat.pow_le_pow_right (by decide) (Nat.le_succ k))
theorem x_nodes_lt {σ : Nat → Nat → Nat} {r : Nat} : ∀ k, x_nodes σ r k < 2 ^ k
  | 0 => by show 0 < 2 ^ 0; decide
  | k + 1 => by
    rw [x_nodes_s]
    split
    · exact or_pow_lt' (x_nodes_lt k)
    · exact lt_pow_s (x_nodes_lt k)
theorem x_upin_lt {σ : Nat → Nat → Nat} {a : Nat} : ∀ k, x_upin σ a k < 2 ^ k
  | 0 => by show 0 < 2 ^ 0; decide
  | k + 1 => by
    rw [x_upin_s]
    split
    · exact or_pow_lt' (x_upin_lt k)
    · exact lt_pow_s (x_upin_lt k)
theorem x_unf_lt {σ : Nat → Nat → Nat} : ∀ j i, i + j ≤ 6 → x_unf σ j i < 6
  | 0, _, _ => by show 5 < 6; decide
  | j + 1, i, h => by
    unfold x_unf
    split
    · omega
    · exact x_unf_lt j (i + 1) (by omega)
theorem x_unused_lt {σ : Nat → Nat → Nat} : x_unused σ < 6 := x_unf_lt 5 0 (by decide)
theorem x_ent_s {mem r k : Nat} {σ : Nat → Nat → Nat} : x_ent mem r σ (k + 1) = if mem.testBit k = true then x_enter (x_ent mem r σ k) k r else x_ent mem r σ k := rfl
theorem bX_ent {mem r : Nat} {σ : Nat → Nat → Nat} (h : bX σ) (hr : r < 6) : ∀ k, bX (x_ent mem r σ k)
  | 0 => h
  | k + 1 => by
    rw [x_ent_s]
    split
    · exact bX_enter (bX_ent h hr k) hr
    · exact bX_ent h hr k
theorem x_bc_s {n q k : Nat} {σ : Nat → Nat → Nat} : x_bc n q σ (k + 1) = if k ≠ n ∧ x_hear (x_bc n q σ k) n k = true then x_recv (x_bc n q σ k) k q else x_bc n q σ k := rfl
theorem bX_bc {n q : Nat} {σ : Nat → Nat → Nat} (h : bX σ) (hq : q < 49) : ∀ k, bX (x_bc n q σ k)
  | 0 => h
  | k + 1 => by
    rw [x_bc_s]
    split
    · exact bX_recv (bX_bc h hq k) hq
    · exact bX_bc h hq k
theorem bX_bcast {n q : Nat} {σ : Nat → Nat → Nat} (h : bX σ) (hq : q < 49) : bX (x_bcast σ n q) := bX_bc (bX_hold h hq) hq 5
theorem bX_app {n e : Nat} {σ : Nat → Nat → Nat} (h : bX σ) (hn : n < 5) (he : e < 98) : bX (x_app σ n e) := by
  unfold x_app
  split
  · exact bX_sU (bX_sU h (by rw [Bx_e hn]; exact he)) (show σ 4 n + 1 < 49 by omega)
  · exact h
theorem x_app_ne {n e f j : Nat} {σ : Nat → Nat → Nat} (h1 : f ≠ 4) (h2 : f ≠ 30 + n) : x_app σ n e f j = σ f j := by
  unfold x_app
  split
  · rw [sU_nef h1, sU_nef h2]
  · rfl
theorem msg_lt {r q : Nat} {σ : Nat → Nat → Nat} (h : bX σ) (hr : r < 6) : σ (40 + r) q < 49 := by
  have := h (40 + r) q
  rw [Bx_a hr] at this
  exact this
theorem bX_del1 {n r : Nat} {σ : Nat → Nat → Nat} (h : bX σ) (hn : n < 5) (hr : r < 6) (h7 : σ 7 n < 48) : bX (sU (x_app σ n (2 * σ (40 + r) (σ 7 n + 1))) 7 n (σ 7 n + 1)) :=
  bX_sU (bX_app h hn (by have := msg_lt (q := σ 7 n + 1) h hr; omega)) (show σ 7 n + 1 < 49 by omega)
theorem bX_del {n r : Nat} (hn : n < 5) (hr : r < 6) : ∀ j (σ : Nat → Nat → Nat), bX σ → σ 7 n + j ≤ 48 → bX (x_del n r j σ)
  | 0, _, h, _ => h
  | j + 1, σ, h, h7 => by
    unfold x_del
    split
    · refine bX_del hn hr j _ (bX_del1 h hn hr (by omega)) ?_
      rw [sU_same]
      omega
    · exact h
theorem x_delR_s {r k : Nat} {σ : Nat → Nat → Nat} : x_delR r σ (k + 1) = if x_delR r σ k 1 k = r + 1 then x_del k r (48 - x_delR r σ k 7 k) (x_delR r σ k) else x_delR r σ k := rfl
theorem bX_delR {r : Nat} {σ : Nat → Nat → Nat} (h : bX σ) (hr : r < 6) : ∀ k, k ≤ 5 → bX (x_delR r σ k)
  | 0, _ => h
  | k + 1, hk => by
    rw [x_delR_s]
    have hb := bX_delR h hr k (by omega)
    split
    · have h7 : x_delR r σ k 7 k < 49 := hb 7 k
      exact bX_del (by omega) hr _ _ hb (by omega)
    · exact hb
theorem bX_tr {n r c : Nat} (hn : n < 5) (hr : r < 6) : ∀ j i g (σ : Nat → Nat → Nat), bX σ → bX (x_tr n r c j i g σ)
  | 0, _, _, _, h => h
  | j + 1, i, g, σ, h => by
    unfold x_tr
    split
    · refine bX_tr hn hr j _ _ _ ?_
      split
      · exact bX_app h hn (by have := msg_lt (q := i) h hr; omega)
      · exact h
    · exact bX_tr hn hr j _ _ _ h
theorem x_lh_s {σ : Nat → Nat → Nat} {c k : Nat} : x_lh σ c (k + 1) = if c.testBit k = true then x_lh σ c k ||| σ 2 k else x_lh σ c k := rfl
theorem x_ll_s {σ : Nat → Nat → Nat} {c k : Nat} : x_ll σ c (k + 1) = if c.testBit k = true then max (x_ll σ c k) (σ 6 k) else x_ll σ c k := rfl
theorem x_lh_lt {σ : Nat → Nat → Nat} {c : Nat} (h : bX σ) : ∀ k, x_lh σ c k < 2 ^ 49
  | 0 => by show 0 < 2 ^ 49; decide
  | k + 1 => by
    rw [x_lh_s]
    split
    · exact Nat.or_lt_two_pow (x_lh_lt h k) (h 2 k)
    · exact x_lh_lt h k
theorem x_ll_lt {σ : Nat → Nat → Nat} {c : Nat} (h : bX σ) : ∀ k, x_ll σ c k < 49
  | 0 => by show 0 < 49; decide
  | k + 1 => by
    rw [x_ll_s]
    have h1 := x_ll_lt (c := c) h k
    have h2 : σ 6 k < 49 := h 6 k
    split
    · omega
    · exact h1
theorem x_l2_s {r c h l k : Nat} {σ : Nat → Nat → Nat} : x_l2 r c h l σ (k + 1) = if c.testBit k = true then x_tr k r c (48 - x_l1 r c h l k (x_l2 r c h l σ k) 7 k) (x_l1 r c h l k (x_l2 r c h l σ k) 7 k + 1) false (x_l1 r c h l k (x_l2 r c h l σ k)) else x_l2 r c h l σ k := rfl
theorem bX_l1 {r c h l n : Nat} {s : Nat → Nat → Nat} (hb : bX s) (hn : n < 5) (hr : r < 6) (hh : h < 2 ^ 49) (hl : l < 49) : bX (x_l1 r c h l n s) := by
  have h7 : s 7 n < 49 := hb 7 n
  refine bX_del hn hr _ _ (bX_sU (bX_sU hb hh) hl) ?_
  rw [sU_nef (by decide), sU_nef (by decide)]
  omega
theorem bX_l2 {r c h l : Nat} {σ : Nat → Nat → Nat} (hb : bX σ) (hr : r < 6) (hh : h < 2 ^ 49) (hl : l < 49) : ∀ k, k ≤ 5 → bX (x_l2 r c h l σ k)
  | 0, _ => hb
  | k + 1, hk => by
    rw [x_l2_s]
    have h1 := bX_l2 (c := c) hb hr hh hl k (by omega)
    split
    · exact bX_tr (by omega) hr _ _ _ _ (bX_l1 h1 (by omega) hr hh hl)
    · exact h1
theorem bX_left {r c : Nat} {σ : Nat → Nat → Nat} (hb : bX σ) (hr : r < 6) : bX (x_left σ r c) := bX_l2 hb hr (x_lh_lt hb 5) (x_ll_lt hb 5) 5 (by decide)
theorem x_f6_s {mem k : Nat} {σ : Nat → Nat → Nat} : x_f6 mem σ (k + 1) = if x_nodes (x_f6 mem σ k) k 5 &&& mem ≠ 0 then x_left (x_f6 mem σ k) k (x_nodes (x_f6 mem σ k) k 5 &&& mem) else x_f6 mem σ k := rfl
theorem bX_f6 {mem : Nat} {σ : Nat → Nat → Nat} (hb : bX σ) : ∀ k, k ≤ 6 → bX (x_f6 mem σ k)
  | 0, _ => hb
  | k + 1, hk => by
    rw [x_f6_s]
    split
    · exact bX_left (bX_f6 hb k (by omega)) (by omega)
    · exact bX_f6 hb k (by omega)
theorem bX_enterNew {mem : Nat} {σ : Nat → Nat → Nat} (hb : bX σ) (h0 : σ 0 0 + 1 < 600) (hm : mem < 32) : bX (x_enterNew σ mem) := bX_ent (bX_ring (bX_sU hb h0) x_unused_lt h0 hm) x_unused_lt 5
theorem x_rq_s {n r k : Nat} {σ : Nat → Nat → Nat} : x_rq n r σ (k + 1) = if ((x_rq n r σ k).1 14 r).testBit (k + 1) = true ∧ ((x_rq n r σ k).1 2 n).testBit (k + 1) = true then (x_bcast (x_offreq (x_rq n r σ k).1 r (k + 1)) n (k + 1), (x_rq n r σ k).2 + 1) else x_rq n r σ k := rfl
theorem bX_rq {n r : Nat} {σ : Nat → Nat → Nat} (hb : bX σ) : ∀ k, k ≤ 48 → bX (x_rq n r σ k).1
  | 0, _ => hb
  | k + 1, hk => by
    rw [x_rq_s]
    split
    · exact bX_bcast (bX_offreq (bX_rq hb k (by omega))) (by omega)
    · exact bX_rq hb k (by omega)
theorem x_rq_le {n r : Nat} {σ : Nat → Nat → Nat} : ∀ k, (x_rq n r σ k).2 ≤ k
  | 0 => Nat.le_refl _
  | k + 1 => by
    rw [x_rq_s]
    have := x_rq_le (n := n) (r := r) (σ := σ) k
    split
    · show (x_rq n r σ k).2 + 1 ≤ _
      omega
    · omega
theorem bX_shift {n : Nat} {σ : Nat → Nat → Nat} (h : bX σ) (hn : n < 5) : ∀ k, bX (x_shift n σ k)
  | 0 => h
  | k + 1 => bX_sU (bX_shift h hn k) (bX_shift h hn k (20 + n) (k + 1))
theorem bX_deq {n : Nat} {σ : Nat → Nat → Nat} (h : bX σ) (hn : n < 5) : bX (x_deq σ n) := bX_sU (bX_shift h hn _) (Nat.lt_of_le_of_lt (Nat.sub_le _ _) (h 3 n))
theorem x_deq_ne {n f j : Nat} {σ : Nat → Nat → Nat} (h1 : f ≠ 3) (h2 : f ≠ 20 + n) : x_deq σ n f j = σ f j := by
  unfold x_deq
  rw [sU_nef h1, x_shift_ne h2]
theorem q_lt {n k : Nat} {σ : Nat → Nat → Nat} (h : bX σ) (hn : n < 5) : σ (20 + n) k < 49 := by
  have := h (20 + n) k
  rw [Bx_q hn] at this
  exact this
theorem bX_nw0 {n r : Nat} {σ : Nat → Nat → Nat} (h : bX σ) (hn : n < 5) (hr : r < 6) (h13 : σ 13 r < 48) : bX (sU (sU (sU (x_deq σ n) 13 r (σ 13 r + 1)) (40 + r) (σ 13 r + 1) (σ (20 + n) 0)) 62 (σ (20 + n) 0) (64 * σ 10 r + (σ 13 r + 1))) := by
  have h10 : σ 10 r < 600 := h 10 r
  exact bX_sU (bX_sU (bX_sU (bX_deq h hn) (show _ < 49 by omega)) (by rw [Bx_a hr]; exact q_lt h hn)) (show _ < 2 ^ 17 by omega)
theorem bX_nw1 {n r : Nat} {σ : Nat → Nat → Nat} (h : bX σ) (hn : n < 5) (hr : r < 6) (h13 : σ 13 r < 48) : bX (x_nw1 n r σ) := bX_bcast (bX_nw0 h hn hr h13) (by omega)
theorem bX_nw {n r : Nat} (hn : n < 5) (hr : r < 6) : ∀ j (σ : Nat → Nat → Nat) c, bX σ → bX (x_nw n r j σ c).1
  | 0, _, _, h => h
  | j + 1, σ, c, h => by
    unfold x_nw
    split
    · rename_i q
      exact bX_nw hn hr j _ _ (bX_nw1 h hn hr q.2)
    · exact h
end PURE2
