/-! 16.pure3: what the class's public methods answer and do -/
section PURE3
theorem x_hold_ne {n q f j : Nat} {σ : Nat → Nat → Nat} (h : f ≠ 2) : x_hold σ n q f j = σ f j := sU_nef h
theorem x_recv_ne {n q f j : Nat} {σ : Nat → Nat → Nat} (h : f ≠ 2) (h8 : f ≠ 8) : x_recv σ n q f j = σ f j := by
  unfold x_recv
  split
  · exact sU_nef h8
  · exact x_hold_ne h
theorem x_bc_ne {n q f j : Nat} {σ : Nat → Nat → Nat} (h : f ≠ 2) (h8 : f ≠ 8) : ∀ k, x_bc n q σ k f j = σ f j
  | 0 => rfl
  | k + 1 => by
    rw [x_bc_s]
    split
    · rw [x_recv_ne h h8, x_bc_ne h h8 k]
    · exact x_bc_ne h h8 k
theorem x_bcast_ne {n q f j : Nat} {σ : Nat → Nat → Nat} (h : f ≠ 2) (h8 : f ≠ 8) : x_bcast σ n q f j = σ f j := by
  unfold x_bcast
  rw [x_bc_ne h h8, x_hold_ne h]
theorem x_rq_ne {n r f j : Nat} {σ : Nat → Nat → Nat} (h : f ≠ 2) (h8 : f ≠ 8) (h14 : f ≠ 14) : ∀ k, (x_rq n r σ k).1 f j = σ f j
  | 0 => rfl
  | k + 1 => by
    rw [x_rq_s]
    split
    · show x_bcast _ n (k + 1) f j = _
      rw [x_bcast_ne h h8]
      unfold x_offreq
      rw [sU_nef h14, x_rq_ne h h8 h14 k]
    · exact x_rq_ne h h8 h14 k
theorem x_nw1_ne {n r f j : Nat} {σ : Nat → Nat → Nat} (h : f ≠ 2) (h8 : f ≠ 8) (h3 : f ≠ 3) (h13 : f ≠ 13) (h62 : f ≠ 62) (hq : f ≠ 20 + n) (ha : f ≠ 40 + r) : x_nw1 n r σ f j = σ f j := by
  unfold x_nw1
  rw [x_bcast_ne h h8, sU_nef h62, sU_nef ha, sU_nef h13, x_deq_ne h3 hq]
theorem x_nw_ne {n r f j : Nat} (h : f ≠ 2) (h8 : f ≠ 8) (h3 : f ≠ 3) (h13 : f ≠ 13) (h62 : f ≠ 62) (hq : f ≠ 20 + n) (ha : f ≠ 40 + r) : ∀ k (σ : Nat → Nat → Nat) c, (x_nw n r k σ c).1 f j = σ f j
  | 0, _, _ => rfl
  | k + 1, σ, c => by
    unfold x_nw
    split
    · rw [x_nw_ne h h8 h3 h13 h62 hq ha k, x_nw1_ne h h8 h3 h13 h62 hq ha]
    · rfl
theorem x_nw_le {n r : Nat} : ∀ k (σ : Nat → Nat → Nat) c, (x_nw n r k σ c).2 ≤ c + k
  | 0, _, _ => Nat.le_refl _
  | k + 1, σ, c => by
    unfold x_nw
    split
    · have := x_nw_le (n := n) (r := r) k (x_nw1 n r σ) (c + 1)
      omega
    · show c ≤ _
      omega
theorem x_mark_ne {n r f j : Nat} {σ : Nat → Nat → Nat} (h14 : f ≠ 14) (hk : f ≠ 50 + r) : x_mark σ r n f j = σ f j := by
  unfold x_mark
  rw [x_mk_ne h14, sU_nef hk]
theorem x_delR_ne {r f j : Nat} {σ : Nat → Nat → Nat} (h4 : f ≠ 4) (h7 : f ≠ 7) (h30 : f < 30 ∨ 35 ≤ f) : ∀ k, k ≤ 5 → x_delR r σ k f j = σ f j
  | 0, _ => rfl
  | k + 1, hk => by
    rw [x_delR_s]
    split
    · rw [x_del_ne h4 (by omega) h7, x_delR_ne h4 h7 h30 k (by omega)]
    · exact x_delR_ne h4 h7 h30 k (by omega)
def v_s1 (σ : Nat → Nat → Nat) (n r : Nat) : Nat → Nat → Nat := (x_nw n r 2 (x_rq n r σ 48).1 0).1
def v_s2 (σ : Nat → Nat → Nat) (n r : Nat) : Nat → Nat → Nat := x_mark (v_s1 σ n r) r n
def v_s3 (σ : Nat → Nat → Nat) (n r : Nat) : Nat → Nat → Nat := sU (v_s2 σ n r) 6 n (x_least (v_s2 σ n r) r)
def v_s4 (σ : Nat → Nat → Nat) (n r : Nat) : Nat → Nat → Nat := sU (x_delR r (v_s3 σ n r) 5) 9 n 0
def v_s5 (σ : Nat → Nat → Nat) (n r : Nat) : Nat → Nat → Nat := if x_st (v_s4 σ n r) n 5 0 = true then x_form (v_s4 σ n r) (v_s4 σ n r 5 n) else x_pass (v_s4 σ n r) n r
def v_a (σ : Nat → Nat → Nat) (n r : Nat) : Nat := (x_rq n r σ 48).2 + (x_nw n r 2 (x_rq n r σ 48).1 0).2
theorem bX_s1 {n r : Nat} {σ : Nat → Nat → Nat} (hb : bX σ) (hn : n < 5) (hr : r < 6) : bX (v_s1 σ n r) := bX_nw hn hr 2 _ 0 (bX_rq hb 48 (by decide))
theorem bX_mark {n r : Nat} {σ : Nat → Nat → Nat} (hb : bX σ) (hr : r < 6) : bX (x_mark σ r n) := by
  refine bX_mk (bX_sU hb ?_) _ (hb 13 r)
  rw [Bx_k hr]
  have := x_reach_le (σ := σ) (n := n)
  omega
theorem bX_s2 {n r : Nat} {σ : Nat → Nat → Nat} (hb : bX σ) (hn : n < 5) (hr : r < 6) : bX (v_s2 σ n r) := bX_mark (bX_s1 hb hn hr) hr
theorem bX_s3 {n r : Nat} {σ : Nat → Nat → Nat} (hb : bX σ) (hn : n < 5) (hr : r < 6) : bX (v_s3 σ n r) := bX_sU (bX_s2 hb hn hr) (show x_least _ r < 49 from Nat.lt_succ_of_le (x_ls_le 5))
theorem bX_s4 {n r : Nat} {σ : Nat → Nat → Nat} (hb : bX σ) (hn : n < 5) (hr : r < 6) : bX (v_s4 σ n r) := bX_sU (bX_delR (bX_s3 hb hn hr) hr 5 (by decide)) (by decide)
theorem v_s4_ne {n r f j : Nat} {σ : Nat → Nat → Nat} (hf : f = 0 ∨ f = 1 ∨ f = 5 ∨ f = 10 ∨ f = 11 ∨ f = 12 ∨ f = 15) : v_s4 σ n r f j = σ f j := by
  unfold v_s4 v_s3 v_s2 v_s1
  rw [sU_nef (by omega), x_delR_ne (by omega) (by omega) (by omega) 5 (by decide), sU_nef (by omega), x_mark_ne (by omega) (by omega), x_nw_ne (by omega) (by omega) (by omega) (by omega) (by omega) (by omega) (by omega), x_rq_ne (by omega) (by omega) (by omega)]
/-- the answers and the states behind them -/
def a_send (σ : Nat → Nat → Nat) (n s : Nat) : Int32 × (Nat → Nat → Nat) := if σ 1 n = 0 then (-2, σ) else if 48 ≤ σ 15 0 then (-4, σ) else if 8 ≤ σ 3 n then (-4, σ) else (nI (σ 15 0 + 1), x_enq (x_take σ n s) n (σ 15 0 + 1))
def a_visit (σ : Nat → Nat → Nat) (n : Nat) : Int32 × (Nat → Nat → Nat) := match σ 1 n with
  | 0 => (-2, σ)
  | r + 1 => if σ 12 r = n + 1 then (nI (v_a σ n r), v_s5 σ n r) else (-1, σ)
def a_tick (σ : Nat → Nat → Nat) (n : Nat) : Int32 × (Nat → Nat → Nat) := if σ 1 n = 0 then (-2, σ) else if σ 9 n + 1 < 4 then (nI 0, sU σ 9 n (σ 9 n + 1)) else (nI 1, x_form (sU σ 9 n (σ 9 n + 1)) (σ 5 n))
def a_crash (σ : Nat → Nat → Nat) (n : Nat) : Int32 × (Nat → Nat → Nat) := if σ 1 n = 0 then (nI 0, σ) else (nI 1, x_down σ n)
def a_restart (σ : Nat → Nat → Nat) (n : Nat) : Int32 × (Nat → Nat → Nat) := if σ 1 n = 0 then (nI 1, x_enterNew σ (2 ^ n)) else (nI 0, σ)
def a_drop (σ : Nat → Nat → Nat) (n : Nat) : Int32 × (Nat → Nat → Nat) := match σ 1 n with
  | 0 => (nI 0, σ)
  | r + 1 => if σ 12 r = 0 then (nI 0, σ) else (nI 1, sU σ 12 r 0)
def a_ring (σ : Nat → Nat → Nat) (n : Nat) : Int32 := match σ 1 n with
  | 0 => -2
  | r + 1 => nI (σ 10 r)
def a_members (σ : Nat → Nat → Nat) (n : Nat) : Int32 := match σ 1 n with
  | 0 => -2
  | r + 1 => nI (σ 11 r)
def a_token (σ : Nat → Nat → Nat) (n : Nat) : Int32 := match σ 1 n with
  | 0 => -2
  | r + 1 => if σ 12 r = 0 then -1 else nI (σ 12 r) - 1
def a_last (σ : Nat → Nat → Nat) (n : Nat) : Int32 := match σ 1 n with
  | 0 => -2
  | r + 1 => if σ 12 r = 0 then -1 else nI (σ 13 r)
def w1 (x : Nat) : Nat := x - (x / 2 ^ 1 &&& 6148914691236517205)
def w2 (x : Nat) : Nat := (x &&& 3689348814741910323) + (x / 2 ^ 2 &&& 3689348814741910323)
def w3 (x : Nat) : Nat := x + x / 2 ^ 4 &&& 1085102592571150095
def w4 (k x : Nat) : Nat := x + x / 2 ^ k
def swar (x : Nat) : Nat := w4 32 (w4 16 (w4 8 (w3 (w2 (w1 x))))) &&& 127
def a_requests (σ : Nat → Nat → Nat) (n : Nat) : Int32 := match σ 1 n with
  | 0 => -2
  | r + 1 => if σ 12 r = 0 then -1 else nI (swar (σ 14 r))
def a_reach (σ : Nat → Nat → Nat) (n : Nat) : Int32 := if σ 1 n = 0 then -2 else nI (x_reach σ n)
def a_line (σ : Nat → Nat → Nat) (n : Nat) : Int32 := if σ 1 n = 0 then -2 else nI (σ 6 n)
def a_waiting (σ : Nat → Nat → Nat) (n : Nat) : Int32 := if σ 1 n = 0 then -2 else nI (σ 3 n)
end PURE3
