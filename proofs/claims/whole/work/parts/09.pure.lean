/-! 09.pure: what the class's methods do, on its state σ. σ 0 0 greatestRing; of node n: 1 ring (0: none), 2 held, 3 queued, 4 logged, 5 area, 6 line, 7 place, 8 deafness, 9 timer; of ring r: 10 number, 11 members, 12 tokenAt + 1, 13 last, 14 requests; 15 taken; 20 + n queue, 30 + n entries, 40 + r messageAt, 50 + r marks, 60 origins, 61 safe, 62 stamps -/
section PURE
def it {α : Type} (f : Nat → α → α) (a : α) : Nat → α
  | 0 => a
  | k + 1 => f k (it f a k)
def rch (h : Nat → Bool) : Nat → Nat → Nat
  | 0, a => a
  | k + 1, a => if h (a + 1) = true then rch h k (a + 1) else a
def fnd (p : Nat → Bool) : Nat → Nat → Nat
  | 0, _ => 0
  | k + 1, m => if p m = true then m else fnd p k (m + 1)
def b2 (c : Bool) : Nat := if c = true then 1 else 0
theorem b2_0 {c : Bool} : b2 c = 0 ↔ c = false := by cases c <;> decide
theorem b2_n0 {c : Bool} : ¬ b2 c = 0 ↔ c = true := by cases c <;> decide
theorem b2_le (c : Bool) : b2 c ≤ 1 := by cases c <;> decide
theorem b2_lt (c : Bool) : b2 c < 2 ^ 31 := by cases c <;> decide
def x_hold (σ : Nat → Nat → Nat) (n q : Nat) : Nat → Nat → Nat := sU σ 2 n (σ 2 n ||| 2 ^ q)
def x_recv (σ : Nat → Nat → Nat) (n q : Nat) : Nat → Nat → Nat := if 0 < σ 8 n then sU σ 8 n (σ 8 n - 1) else x_hold σ n q
def x_reach (σ : Nat → Nat → Nat) (n : Nat) : Nat := rch (fun q => (σ 2 n).testBit q) 48 0
def x_enq (σ : Nat → Nat → Nat) (n m : Nat) : Nat → Nat → Nat := if σ 3 n < 8 then sU (sU σ (20 + n) (σ 3 n) m) 3 n (σ 3 n + 1) else σ
def x_shift (n : Nat) (σ : Nat → Nat → Nat) (k : Nat) : Nat → Nat → Nat := it (fun i s => sU s (20 + n) i (s (20 + n) (i + 1))) σ k
def x_deq (σ : Nat → Nat → Nat) (n : Nat) : Nat → Nat → Nat := sU (x_shift n σ (σ 3 n - 1)) 3 n (σ 3 n - 1)
def x_app (σ : Nat → Nat → Nat) (n e : Nat) : Nat → Nat → Nat := if σ 4 n < 48 then sU (sU σ (30 + n) (σ 4 n) e) 4 n (σ 4 n + 1) else σ
def x_untok (σ : Nat → Nat → Nat) (n : Nat) : Nat → Nat → Nat := match σ 1 n with
  | 0 => σ
  | r + 1 => if σ 12 r = n + 1 then sU σ 12 r 0 else σ
def x_leave (σ : Nat → Nat → Nat) (n : Nat) : Nat → Nat → Nat := sU (sU (sU (sU (sU (x_untok σ n) 1 n 0) 2 n 0) 6 n 0) 7 n 0) 9 n 0
def x_enter (σ : Nat → Nat → Nat) (n r : Nat) : Nat → Nat → Nat := sU (x_leave σ n) 1 n (r + 1)
def x_down (σ : Nat → Nat → Nat) (n : Nat) : Nat → Nat → Nat := sU (sU (x_leave σ n) 3 n 0) 8 n 0
/-- the next member behind a node, itself if there is none -/
def x_af (mem n : Nat) : Nat → Nat → Nat
  | 0, _ => n
  | j + 1, i => if mem.testBit ((n + (i + 1)) % 5) = true then (n + (i + 1)) % 5 else x_af mem n j (i + 1)
def x_after (mem n : Nat) : Nat := x_af mem n 4 0
def x_zero (r : Nat) (σ : Nat → Nat → Nat) (k : Nat) : Nat → Nat → Nat := it (fun n s => sU s (50 + r) n 0) σ k
def x_ring (σ : Nat → Nat → Nat) (r num mem : Nat) : Nat → Nat → Nat := x_zero r (sU (sU (sU (sU (sU σ 10 r num) 11 r mem) 12 r (x_after mem 4 + 1)) 13 r 0) 14 r 0) 5
def x_offreq (σ : Nat → Nat → Nat) (r q : Nat) : Nat → Nat → Nat := sU σ 14 r (σ 14 r ^^^ (σ 14 r &&& 2 ^ q))
def x_mk (r n : Nat) (σ : Nat → Nat → Nat) (k : Nat) : Nat → Nat → Nat := it (fun i s => if (s 2 n).testBit (i + 1) = true then s else sU s 14 r (s 14 r ||| 2 ^ (i + 1))) σ k
def x_mark (σ : Nat → Nat → Nat) (r n : Nat) : Nat → Nat → Nat := x_mk r n (sU σ (50 + r) n (x_reach σ n)) (σ 13 r)
def x_ls (σ : Nat → Nat → Nat) (r : Nat) (k : Nat) : Nat := it (fun k a => if (σ 11 r).testBit k = true then min a (σ (50 + r) k) else a) 48 k
def x_least (σ : Nat → Nat → Nat) (r : Nat) : Nat := x_ls σ r 5
def x_hear (σ : Nat → Nat → Nat) (n k : Nat) : Bool := decide (σ 1 n ≠ 0 ∧ σ 1 n = σ 1 k ∧ σ 5 n = σ 5 k)
def x_take (σ : Nat → Nat → Nat) (n s : Nat) : Nat → Nat → Nat := sU (sU (sU σ 15 0 (σ 15 0 + 1)) 60 (σ 15 0 + 1) n) 61 (σ 15 0 + 1) s
end PURE
