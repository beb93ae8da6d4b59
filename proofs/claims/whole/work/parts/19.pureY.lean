/-! 19.pureY: what the reference's methods do, on its state τ: 0 up, 1 area, 2 ringOf, 3 lineOf, 4 placeOf, 5 deaf, 6 timer, 7 hold, 8 logs, 9 entries, 10 messages (at 0), 11 origin, 12 isSafe, 13 gone, 14 ringIn, 15 number, 16 rings (at 0), 17 at + 1, 18 latest, 19 memberBits, 20 marks, 21 wanted -/
section PUREY
def By (f : Nat) : Nat := match f with
  | 0 => 2
  | 1 => 3
  | 2 => 520
  | 3 => 49
  | 4 => 49
  | 5 => 21
  | 6 => 5
  | 7 => 2
  | 8 => 98
  | 9 => 49
  | 10 => 49
  | 11 => 5
  | 12 => 2
  | 13 => 2
  | 14 => 520
  | 15 => 49
  | 16 => 520
  | 17 => 6
  | 18 => 49
  | 19 => 32
  | 20 => 49
  | 21 => 2 ^ 49
  | _ => 2
def bY (τ : Nat → Nat → Nat) : Prop := ∀ f i, τ f i < By f
theorem bY_sU {τ : Nat → Nat → Nat} {f i v : Nat} (h : bY τ) (hv : v < By f) : bY (sU τ f i v) := by
  intro g j
  rw [sU_app]
  split
  · rename_i q
    rw [q.1]
    exact hv
  · exact h g j
theorem fnd_spec (p : Nat → Bool) : ∀ (k m : Nat), fnd p k m = 0 ∨ (m ≤ fnd p k m ∧ fnd p k m < m + k ∧ p (fnd p k m) = true)
  | 0, _ => Or.inl rfl
  | k + 1, m => by
    unfold fnd
    split
    · rename_i h
      exact Or.inr ⟨Nat.le_refl _, by omega, h⟩
    · rcases fnd_spec p k (m + 1) with h | h
      · exact Or.inl h
      · exact Or.inr ⟨by omega, by omega, h.2.2⟩
def y_msg (τ : Nat → Nat → Nat) (r q : Nat) : Nat := fnd (fun m => decide (τ 15 m = q ∧ τ 14 m = r)) (τ 10 0) 1
theorem y_msg_lt {τ : Nat → Nat → Nat} {r q : Nat} (h : bY τ) : y_msg τ r q < 49 := by
  have h1 : τ 10 0 < 49 := h 10 0
  unfold y_msg
  rcases fnd_spec (fun m => decide (τ 15 m = q ∧ τ 14 m = r)) (τ 10 0) 1 with h2 | h2 <;> omega
def y_has (τ : Nat → Nat → Nat) (n q : Nat) : Bool := decide (0 < y_msg τ (τ 2 n) q ∧ τ 7 (49 * n + y_msg τ (τ 2 n) q) ≠ 0)
def y_reach (τ : Nat → Nat → Nat) (n : Nat) : Nat := rch (fun q => y_has τ n q) 48 0
def y_wait (τ : Nat → Nat → Nat) (n m : Nat) : Bool := decide (τ 11 m = n ∧ τ 15 m = 0 ∧ τ 13 m = 0)
def y_first (τ : Nat → Nat → Nat) (n : Nat) : Nat := fnd (fun m => y_wait τ n m) (τ 10 0) 1
theorem y_first_lt {τ : Nat → Nat → Nat} {n : Nat} (h : bY τ) : y_first τ n < 49 := by
  have h1 : τ 10 0 < 49 := h 10 0
  unfold y_first
  rcases fnd_spec (fun m => y_wait τ n m) (τ 10 0) 1 with h2 | h2 <;> omega
def y_qd (τ : Nat → Nat → Nat) (n k : Nat) : Nat := it (fun i c => c + b2 (y_wait τ n (i + 1))) 0 k
theorem y_qd_s {τ : Nat → Nat → Nat} {n k : Nat} : y_qd τ n (k + 1) = y_qd τ n k + b2 (y_wait τ n (k + 1)) := rfl
theorem y_qd_le {τ : Nat → Nat → Nat} {n : Nat} : ∀ k, y_qd τ n k ≤ k
  | 0 => Nat.le_refl _
  | k + 1 => by
    rw [y_qd_s]
    have := y_qd_le (τ := τ) (n := n) k
    have := b2_le (y_wait τ n (k + 1))
    omega
def y_hear (τ : Nat → Nat → Nat) (a c : Nat) : Bool := decide (τ 0 a ≠ 0 ∧ τ 0 c ≠ 0 ∧ τ 1 a = τ 1 c ∧ τ 2 a = τ 2 c)
def y_recv (τ : Nat → Nat → Nat) (k m : Nat) : Nat → Nat → Nat := if 0 < τ 5 k then sU τ 5 k (τ 5 k - 1) else sU τ 7 (49 * k + m) 1
def y_bc (n m : Nat) (τ : Nat → Nat → Nat) (k : Nat) : Nat → Nat → Nat := it (fun k s => if k ≠ n ∧ y_hear s k n = true then y_recv s k m else s) τ k
def y_bcast (τ : Nat → Nat → Nat) (n m : Nat) : Nat → Nat → Nat := y_bc n m (sU τ 7 (49 * n + m) 1) 5
theorem y_bc_s {n m k : Nat} {τ : Nat → Nat → Nat} : y_bc n m τ (k + 1) = if k ≠ n ∧ y_hear (y_bc n m τ k) k n = true then y_recv (y_bc n m τ k) k m else y_bc n m τ k := rfl
theorem bY_recv {k m : Nat} {τ : Nat → Nat → Nat} (h : bY τ) : bY (y_recv τ k m) := by
  unfold y_recv
  split
  · exact bY_sU h (Nat.lt_of_le_of_lt (Nat.sub_le _ _) (h 5 k))
  · exact bY_sU h (by decide)
theorem bY_bc {n m : Nat} {τ : Nat → Nat → Nat} (h : bY τ) : ∀ k, bY (y_bc n m τ k)
  | 0 => h
  | k + 1 => by
    rw [y_bc_s]
    split
    · exact bY_recv (bY_bc h k)
    · exact bY_bc h k
theorem bY_bcast {n m : Nat} {τ : Nat → Nat → Nat} (h : bY τ) : bY (y_bcast τ n m) := bY_bc (bY_sU h (by decide)) 5
def y_app (τ : Nat → Nat → Nat) (n e : Nat) : Nat → Nat → Nat := sU (sU τ 8 (48 * n + τ 9 n) e) 9 n (τ 9 n + 1)
theorem bY_app {n e : Nat} {τ : Nat → Nat → Nat} (h : bY τ) (h9 : τ 9 n < 48) (he : e < 98) : bY (y_app τ n e) := bY_sU (bY_sU h he) (show _ < 49 by omega)
def y_dm (τ : Nat → Nat → Nat) (n : Nat) : Nat := y_msg τ (τ 2 n) (τ 4 n + 1)
def y_dl (τ : Nat → Nat → Nat) (n : Nat) : Bool := decide (0 < y_dm τ n ∧ τ 7 (49 * n + y_dm τ n) ≠ 0 ∧ (τ 12 (y_dm τ n) = 0 ∨ τ 4 n + 1 ≤ τ 3 n))
def y_d1 (τ : Nat → Nat → Nat) (n : Nat) : Nat → Nat → Nat := sU (y_app τ n (2 * y_dm τ n)) 4 n (τ 4 n + 1)
def y_del (n : Nat) : Nat → (Nat → Nat → Nat) → Nat → Nat → Nat
  | 0, s => s
  | j + 1, s => if y_dl s n = true then y_del n j (y_d1 s n) else s
def y_delOK (n : Nat) : Nat → (Nat → Nat → Nat) → Prop
  | 0, _ => True
  | j + 1, s => if y_dl s n = true then s 9 n < 48 ∧ s 4 n < 48 ∧ y_delOK n j (y_d1 s n) else True
theorem bY_d1 {n : Nat} {τ : Nat → Nat → Nat} (h : bY τ) (h9 : τ 9 n < 48) (h4 : τ 4 n < 48) : bY (y_d1 τ n) := by
  have := y_msg_lt (r := τ 2 n) (q := τ 4 n + 1) h
  exact bY_sU (bY_app h h9 (by unfold y_dm; omega)) (show _ < 49 by omega)
theorem bY_del {n : Nat} : ∀ j (τ : Nat → Nat → Nat), bY τ → y_delOK n j τ → bY (y_del n j τ)
  | 0, _, h, _ => h
  | j + 1, τ, h, ok => by
    unfold y_del
    unfold y_delOK at ok
    split
    · rename_i q
      rw [if_pos q] at ok
      exact bY_del j _ (bY_d1 h ok.1 ok.2.1) ok.2.2
    · exact h
def y_off (τ : Nat → Nat → Nat) (r q : Nat) : Nat → Nat → Nat := sU τ 21 r (τ 21 r ^^^ (τ 21 r &&& 2 ^ q))
def y_rq (n r : Nat) (τ : Nat → Nat → Nat) (k : Nat) : (Nat → Nat → Nat) × Nat := it (fun i p => if (p.1 21 r).testBit (i + 1) = true ∧ y_has p.1 n (i + 1) = true then (y_bcast (y_off p.1 r (i + 1)) n (y_msg (y_off p.1 r (i + 1)) r (i + 1)), p.2 + 1) else p) (τ, 0) k
theorem y_rq_s {n r k : Nat} {τ : Nat → Nat → Nat} : y_rq n r τ (k + 1) = if ((y_rq n r τ k).1 21 r).testBit (k + 1) = true ∧ y_has (y_rq n r τ k).1 n (k + 1) = true then (y_bcast (y_off (y_rq n r τ k).1 r (k + 1)) n (y_msg (y_off (y_rq n r τ k).1 r (k + 1)) r (k + 1)), (y_rq n r τ k).2 + 1) else y_rq n r τ k := rfl
theorem bY_off {r q : Nat} {τ : Nat → Nat → Nat} (h : bY τ) : bY (y_off τ r q) := bY_sU h (Nat.xor_lt_two_pow (h 21 r) (Nat.lt_of_le_of_lt Nat.and_le_left (h 21 r)))
theorem bY_rq {n r : Nat} {τ : Nat → Nat → Nat} (h : bY τ) : ∀ k, bY (y_rq n r τ k).1
  | 0 => h
  | k + 1 => by
    rw [y_rq_s]
    split
    · exact bY_bcast (bY_off (bY_rq h k))
    · exact bY_rq h k
theorem y_rq_le {n r : Nat} {τ : Nat → Nat → Nat} : ∀ k, (y_rq n r τ k).2 ≤ k
  | 0 => Nat.le_refl _
  | k + 1 => by
    rw [y_rq_s]
    have := y_rq_le (n := n) (r := r) (τ := τ) k
    split
    · show (y_rq n r τ k).2 + 1 ≤ _
      omega
    · omega
def y_nw0 (n r : Nat) (τ : Nat → Nat → Nat) : Nat → Nat → Nat := sU (sU (sU τ 18 r (τ 18 r + 1)) 15 (y_first τ n) (τ 18 r + 1)) 14 (y_first τ n) r
def y_nw1 (n r : Nat) (τ : Nat → Nat → Nat) : Nat → Nat → Nat := y_bcast (y_nw0 n r τ) n (y_first τ n)
/-- two rounds; one that finds nothing goes on -/
def y_nw (n r : Nat) (τ : Nat → Nat → Nat) (k : Nat) : (Nat → Nat → Nat) × Nat := it (fun _ p => if 0 < y_first p.1 n then (y_nw1 n r p.1, p.2 + 1) else p) (τ, 0) k
theorem y_nw_s {n r k : Nat} {τ : Nat → Nat → Nat} : y_nw n r τ (k + 1) = if 0 < y_first (y_nw n r τ k).1 n then (y_nw1 n r (y_nw n r τ k).1, (y_nw n r τ k).2 + 1) else y_nw n r τ k := rfl
def y_nwOK (n r : Nat) (τ : Nat → Nat → Nat) : Prop := ∀ k, k < 2 → 0 < y_first (y_nw n r τ k).1 n → (y_nw n r τ k).1 18 r < 48
theorem bY_nw0 {n r : Nat} {τ : Nat → Nat → Nat} (h : bY τ) (hr : r < 520) (h18 : τ 18 r < 48) : bY (y_nw0 n r τ) := bY_sU (bY_sU (bY_sU h (show _ < 49 by omega)) (show _ < 49 by omega)) hr
theorem bY_nw {n r : Nat} {τ : Nat → Nat → Nat} (h : bY τ) (hr : r < 520) (ok : y_nwOK n r τ) : ∀ k, k ≤ 2 → bY (y_nw n r τ k).1
  | 0, _ => h
  | k + 1, hk => by
    rw [y_nw_s]
    split
    · rename_i q
      exact bY_bcast (bY_nw0 (bY_nw h hr ok k (by omega)) hr (ok k (by omega) q))
    · exact bY_nw h hr ok k (by omega)
theorem y_nw_le {n r : Nat} {τ : Nat → Nat → Nat} : ∀ k, (y_nw n r τ k).2 ≤ k
  | 0 => Nat.le_refl _
  | k + 1 => by
    rw [y_nw_s]
    have := y_nw_le (n := n) (r := r) (τ := τ) k
    split
    · show (y_nw n r τ k).2 + 1 ≤ _
      omega
    · omega
def y_strc (τ : Nat → Nat → Nat) (n k : Nat) : Bool := decide (τ 0 k ≠ 0 ∧ τ 1 k = τ 1 n ∧ τ 2 k ≠ τ 2 n)
def y_str (τ : Nat → Nat → Nat) (n k : Nat) : Bool := it (fun i f => f || y_strc τ n i) false k
theorem y_str_s {τ : Nat → Nat → Nat} {n k : Nat} : y_str τ n (k + 1) = (y_str τ n k || y_strc τ n k) := rfl
/-- from the fourth behind down to the first: j of them left -/
def y_nx (mem n : Nat) : Nat → Nat → Nat
  | 0, v => v
  | j + 1, v => y_nx mem n j (if mem.testBit ((n + (j + 1)) % 5) = true then (n + (j + 1)) % 5 else v)
def y_next (mem n : Nat) : Nat := y_nx mem n 4 n
theorem y_nx_lt {mem n : Nat} : ∀ j v, v < 5 → y_nx mem n j v < 5
  | 0, _, h => h
  | j + 1, v, h => by
    unfold y_nx
    refine y_nx_lt j _ ?_
    split
    · omega
    · exact h
def y_pass (τ : Nat → Nat → Nat) (n r : Nat) : Nat → Nat → Nat := sU τ 17 r (if y_next (τ 19 r) n = n ∨ y_hear τ (y_next (τ 19 r) n) n = true then y_next (τ 19 r) n + 1 else 0)
def y_newR (τ : Nat → Nat → Nat) (bits h : Nat) : Nat → Nat → Nat := sU (sU (sU τ 16 0 (τ 16 0 + 1)) 19 (τ 16 0 + 1) bits) 17 (τ 16 0 + 1) (h + 1)
theorem bY_newR {bits h : Nat} {τ : Nat → Nat → Nat} (hb : bY τ) (h16 : τ 16 0 + 1 < 520) (h1 : bits < 32) (h2 : h < 5) : bY (y_newR τ bits h) := bY_sU (bY_sU (bY_sU hb h16) h1) (show h + 1 < 6 by omega)
def y_cl (n : Nat) (τ : Nat → Nat → Nat) (k : Nat) : Nat → Nat → Nat := it (fun i s => sU s 7 (49 * n + (i + 1)) 0) τ k
def y_clean (τ : Nat → Nat → Nat) (n : Nat) : Nat → Nat → Nat := sU (sU (sU (y_cl n τ 48) 3 n 0) 4 n 0) 6 n 0
theorem bY_cl {n : Nat} {τ : Nat → Nat → Nat} (h : bY τ) : ∀ k, bY (y_cl n τ k)
  | 0 => h
  | k + 1 => bY_sU (bY_cl h k) (by decide)
theorem bY_clean {n : Nat} {τ : Nat → Nat → Nat} (h : bY τ) : bY (y_clean τ n) := bY_sU (bY_sU (bY_sU (bY_cl h 48) (by decide)) (by decide)) (by decide)
def y_untok (τ : Nat → Nat → Nat) (n : Nat) : Nat → Nat → Nat := sU τ 17 (τ 2 n) (if τ 17 (τ 2 n) = n + 1 then 0 else τ 17 (τ 2 n))
def y_ent1 (τ : Nat → Nat → Nat) (n : Nat) : Nat → Nat → Nat := y_clean (sU (y_untok τ n) 2 n (τ 16 0)) n
theorem bY_untok {n : Nat} {τ : Nat → Nat → Nat} (h : bY τ) : bY (y_untok τ n) := by
  unfold y_untok
  split
  · exact bY_sU h (by decide)
  · exact bY_sU h (h 17 _)
theorem bY_ent1 {n : Nat} {τ : Nat → Nat → Nat} (h : bY τ) : bY (y_ent1 τ n) := bY_clean (bY_sU (bY_untok h) (h 16 0))
def y_tog (τ : Nat → Nat → Nat) (a r k : Nat) : Nat := it (fun n c => if τ 0 n ≠ 0 ∧ τ 1 n = a ∧ τ 2 n = r then c ||| 2 ^ n else c) 0 k
theorem y_tog_s {τ : Nat → Nat → Nat} {a r k : Nat} : y_tog τ a r (k + 1) = if τ 0 k ≠ 0 ∧ τ 1 k = a ∧ τ 2 k = r then y_tog τ a r k ||| 2 ^ k else y_tog τ a r k := rfl
theorem y_tog_lt {τ : Nat → Nat → Nat} {a r : Nat} : ∀ k, y_tog τ a r k < 2 ^ k
  | 0 => by show 0 < 2 ^ 0; decide
  | k + 1 => by
    rw [y_tog_s]
    split
    · exact or_pow_lt' (y_tog_lt k)
    · exact lt_pow_s (y_tog_lt k)
end PUREY
