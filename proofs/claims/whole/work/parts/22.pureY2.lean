/-! 22.pureY2: what the rest of the reference's methods do -/
section PUREY2
def y_fa (s : Nat → Nat → Nat) (n i : Nat) : Nat → Nat → Nat := y_app s n (2 * y_msg s (s 2 n) i + 1)
def y_fc (s : Nat → Nat → Nat) (n c i : Nat) (g : Bool) : Bool := decide (g = false ∨ c.testBit (s 11 (y_msg s (s 2 n) i)) = true)
def y_fn (n c : Nat) : Nat → Nat → Bool → (Nat → Nat → Nat) → Nat → Nat → Nat
  | 0, _, _, s => s
  | j + 1, i, g, s => if y_has s n i = true then (if y_fc s n c i g = true then y_fn n c j (i + 1) g (y_fa s n i) else y_fn n c j (i + 1) g s) else y_fn n c j (i + 1) true s
def y_fnOK (n c : Nat) : Nat → Nat → Bool → (Nat → Nat → Nat) → Prop
  | 0, _, _, _ => True
  | j + 1, i, g, s => if y_has s n i = true then (if y_fc s n c i g = true then s 9 n < 48 ∧ y_fnOK n c j (i + 1) g (y_fa s n i) else y_fnOK n c j (i + 1) g s) else y_fnOK n c j (i + 1) true s
theorem bY_fa {n i : Nat} {s : Nat → Nat → Nat} (h : bY s) (h9 : s 9 n < 48) : bY (y_fa s n i) := by
  have := y_msg_lt (r := s 2 n) (q := i) h
  exact bY_app h h9 (by omega)
theorem bY_fn {n c : Nat} : ∀ j i g (s : Nat → Nat → Nat), bY s → y_fnOK n c j i g s → bY (y_fn n c j i g s)
  | 0, _, _, _, h, _ => h
  | j + 1, i, g, s, h, ok => by
    unfold y_fn
    unfold y_fnOK at ok
    split
    · rename_i q
      rw [if_pos q] at ok
      split
      · rename_i q2
        rw [if_pos q2] at ok
        exact bY_fn j _ _ _ (bY_fa h ok.1) ok.2
      · rename_i q2
        rw [if_neg q2] at ok
        exact bY_fn j _ _ _ h ok
    · rename_i q
      rw [if_neg q] at ok
      exact bY_fn j _ _ _ h ok
def y_sl (τ : Nat → Nat → Nat) (c k : Nat) : Nat := it (fun n l => if c.testBit n = true ∧ l < τ 3 n then τ 3 n else l) 0 k
theorem y_sl_s {τ : Nat → Nat → Nat} {c k : Nat} : y_sl τ c (k + 1) = if c.testBit k = true ∧ y_sl τ c k < τ 3 k then τ 3 k else y_sl τ c k := rfl
theorem y_sl_lt {τ : Nat → Nat → Nat} {c : Nat} (h : bY τ) : ∀ k, y_sl τ c k < 49
  | 0 => by show 0 < 49; decide
  | k + 1 => by
    rw [y_sl_s]
    split
    · exact h 3 k
    · exact y_sl_lt h k
def y_oc (s : Nat → Nat → Nat) (c m n : Nat) : Bool := decide (c.testBit n = true ∧ s 7 (49 * n + m) ≠ 0)
def y_one (s : Nat → Nat → Nat) (c m k : Nat) : Bool := it (fun n o => o || y_oc s c m n) false k
theorem y_one_s {s : Nat → Nat → Nat} {c m k : Nat} : y_one s c m (k + 1) = (y_one s c m k || y_oc s c m k) := rfl
def y_sp (c m : Nat) (o : Bool) (s : Nat → Nat → Nat) (k : Nat) : Nat → Nat → Nat := it (fun n s => sU s 7 (49 * n + m) (if c.testBit n = true then b2 o else s 7 (49 * n + m))) s k
theorem y_sp_s {c m k : Nat} {o : Bool} {s : Nat → Nat → Nat} : y_sp c m o s (k + 1) = sU (y_sp c m o s k) 7 (49 * k + m) (if c.testBit k = true then b2 o else y_sp c m o s k 7 (49 * k + m)) := rfl
theorem bY_sp {c m : Nat} {o : Bool} {s : Nat → Nat → Nat} (h : bY s) : ∀ k, bY (y_sp c m o s k)
  | 0 => h
  | k + 1 => by
    rw [y_sp_s]
    split
    · exact bY_sU (bY_sp h k) (show b2 o < 2 from Nat.lt_succ_of_le (b2_le o))
    · exact bY_sU (bY_sp h k) (bY_sp h k 7 _)
def y_sh (c : Nat) (τ : Nat → Nat → Nat) (k : Nat) : Nat → Nat → Nat := it (fun i s => y_sp c (i + 1) (y_one s c (i + 1) 5) s 5) τ k
theorem y_sh_s {c k : Nat} {τ : Nat → Nat → Nat} : y_sh c τ (k + 1) = y_sp c (k + 1) (y_one (y_sh c τ k) c (k + 1) 5) (y_sh c τ k) 5 := rfl
theorem bY_sh {c : Nat} {τ : Nat → Nat → Nat} (h : bY τ) : ∀ k, bY (y_sh c τ k)
  | 0 => h
  | k + 1 => by
    rw [y_sh_s]
    exact bY_sp (bY_sh h k) 5
def y_s1 (l n : Nat) (s : Nat → Nat → Nat) : Nat → Nat → Nat := y_del n 48 (sU s 3 n l)
def y_s2 (c l n : Nat) (s : Nat → Nat → Nat) : Nat → Nat → Nat := y_fn n c (48 - y_s1 l n s 4 n) (y_s1 l n s 4 n + 1) false (y_s1 l n s)
def y_s2OK (c l n : Nat) (s : Nat → Nat → Nat) : Prop := y_delOK n 48 (sU s 3 n l) ∧ y_fnOK n c (48 - y_s1 l n s 4 n) (y_s1 l n s 4 n + 1) false (y_s1 l n s)
def y_s3 (c l : Nat) (τ : Nat → Nat → Nat) (k : Nat) : Nat → Nat → Nat := it (fun n s => if c.testBit n = true then y_s2 c l n s else s) τ k
theorem y_s3_s {c l k : Nat} {τ : Nat → Nat → Nat} : y_s3 c l τ (k + 1) = if c.testBit k = true then y_s2 c l k (y_s3 c l τ k) else y_s3 c l τ k := rfl
def y_s3OK (c l : Nat) (τ : Nat → Nat → Nat) : Prop := ∀ n, n < 5 → c.testBit n = true → y_s2OK c l n (y_s3 c l τ n)
theorem bY_s1 {l n : Nat} {s : Nat → Nat → Nat} (h : bY s) (hl : l < 49) (ok : y_delOK n 48 (sU s 3 n l)) : bY (y_s1 l n s) := bY_del 48 _ (bY_sU h hl) ok
theorem bY_s2 {c l n : Nat} {s : Nat → Nat → Nat} (h : bY s) (hl : l < 49) (ok : y_s2OK c l n s) : bY (y_s2 c l n s) := bY_fn _ _ _ _ (bY_s1 h hl ok.1) ok.2
theorem bY_s3 {c l : Nat} {τ : Nat → Nat → Nat} (h : bY τ) (hl : l < 49) (ok : y_s3OK c l τ) : ∀ k, k ≤ 5 → bY (y_s3 c l τ k)
  | 0, _ => h
  | k + 1, hk => by
    rw [y_s3_s]
    split
    · rename_i q
      exact bY_s2 (bY_s3 h hl ok k (by omega)) hl (ok k (by omega) q)
    · exact bY_s3 h hl ok k (by omega)
def y_share (τ : Nat → Nat → Nat) (c : Nat) : Nat → Nat → Nat := y_s3 c (y_sl τ c 5) (y_sh c τ 48) 5
def y_shareOK (τ : Nat → Nat → Nat) (c : Nat) : Prop := y_s3OK c (y_sl τ c 5) (y_sh c τ 48)
theorem bY_share {c : Nat} {τ : Nat → Nat → Nat} (h : bY τ) (ok : y_shareOK τ c) : bY (y_share τ c) := bY_s3 (bY_sh h 48) (y_sl_lt h 5) ok 5 (by decide)
def y_inA (τ : Nat → Nat → Nat) (a n : Nat) : Bool := decide (τ 0 n ≠ 0 ∧ τ 1 n = a)
/-- from node j - 1 down to 0: the set, and its least member + 1 -/
def y_av (τ : Nat → Nat → Nat) (a : Nat) : Nat → Nat → Nat
  | 0, c => c
  | j + 1, c => y_av τ a j (if y_inA τ a j = true then c ||| 2 ^ j else c)
def y_lv (τ : Nat → Nat → Nat) (a : Nat) : Nat → Nat → Nat
  | 0, l => l
  | j + 1, l => y_lv τ a j (if y_inA τ a j = true then j + 1 else l)
def y_all (τ : Nat → Nat → Nat) (a : Nat) : Nat := y_av τ a 5 0
theorem y_av_lt {τ : Nat → Nat → Nat} {a : Nat} : ∀ j c, j ≤ 5 → c < 32 → y_av τ a j c < 32
  | 0, _, _, h => h
  | j + 1, c, hj, h => by
    unfold y_av
    refine y_av_lt j _ (by omega) ?_
    split
    · exact Nat.or_lt_two_pow (n := 5) h (Nat.pow_lt_pow_right (by decide) (by omega))
    · exact h
def y_gc (all : Nat) (n : Nat) (p : (Nat → Nat → Nat) × Nat) : Bool := decide (all.testBit n = true ∧ p.2.testBit n = false)
def y_g (a all : Nat) (τ : Nat → Nat → Nat) (k : Nat) : (Nat → Nat → Nat) × Nat := it (fun n p => if y_gc all n p = true then (y_share p.1 (y_tog p.1 a (p.1 2 n) 5), p.2 ||| y_tog p.1 a (p.1 2 n) 5) else p) (τ, 0) k
theorem y_g_s {a all k : Nat} {τ : Nat → Nat → Nat} : y_g a all τ (k + 1) = if y_gc all k (y_g a all τ k) = true then (y_share (y_g a all τ k).1 (y_tog (y_g a all τ k).1 a ((y_g a all τ k).1 2 k) 5), (y_g a all τ k).2 ||| y_tog (y_g a all τ k).1 a ((y_g a all τ k).1 2 k) 5) else y_g a all τ k := rfl
def y_gOK (a all : Nat) (τ : Nat → Nat → Nat) : Prop := ∀ n, n < 5 → y_gc all n (y_g a all τ n) = true → y_shareOK (y_g a all τ n).1 (y_tog (y_g a all τ n).1 a ((y_g a all τ n).1 2 n) 5)
theorem bY_g {a all : Nat} {τ : Nat → Nat → Nat} (h : bY τ) (ok : y_gOK a all τ) : ∀ k, k ≤ 5 → bY (y_g a all τ k).1
  | 0, _ => h
  | k + 1, hk => by
    rw [y_g_s]
    split
    · rename_i q
      exact bY_share (bY_g h ok k (by omega)) (ok k (by omega) q)
    · exact bY_g h ok k (by omega)
theorem y_g2_lt {a all : Nat} {τ : Nat → Nat → Nat} : ∀ k, (y_g a all τ k).2 < 32
  | 0 => by show 0 < 32; decide
  | k + 1 => by
    rw [y_g_s]
    split
    · exact Nat.or_lt_two_pow (n := 5) (y_g2_lt k) (y_tog_lt 5)
    · exact y_g2_lt k
def y_en (all : Nat) (τ : Nat → Nat → Nat) (k : Nat) : Nat → Nat → Nat := it (fun n s => if all.testBit n = true then y_ent1 s n else s) τ k
theorem y_en_s {all k : Nat} {τ : Nat → Nat → Nat} : y_en all τ (k + 1) = if all.testBit k = true then y_ent1 (y_en all τ k) k else y_en all τ k := rfl
theorem bY_en {all : Nat} {τ : Nat → Nat → Nat} (h : bY τ) : ∀ k, bY (y_en all τ k)
  | 0 => h
  | k + 1 => by
    rw [y_en_s]
    split
    · exact bY_ent1 (bY_en h k)
    · exact bY_en h k
def y_low (τ : Nat → Nat → Nat) (a : Nat) : Nat := y_lv τ a 5 0 - 1
def y_form (τ : Nat → Nat → Nat) (a : Nat) : Nat → Nat → Nat := y_en (y_all τ a) (y_newR (y_g a (y_all τ a) τ 5).1 (y_all τ a) (y_low τ a)) 5
def y_formOK (τ : Nat → Nat → Nat) (a : Nat) : Prop := y_gOK a (y_all τ a) τ ∧ 0 < y_lv τ a 5 0 ∧ (y_g a (y_all τ a) τ 5).1 16 0 + 1 < 520
theorem y_lv_le {τ : Nat → Nat → Nat} {a : Nat} : ∀ j l, j ≤ 5 → l ≤ 5 → y_lv τ a j l ≤ 5
  | 0, _, _, h => h
  | j + 1, l, hj, h => by
    unfold y_lv
    refine y_lv_le j _ (by omega) ?_
    split <;> omega
def y_mk (n r : Nat) (s : Nat → Nat → Nat) (k : Nat) : Nat → Nat → Nat := it (fun i s => sU s 21 r (if y_has s n (i + 1) = true then s 21 r else s 21 r ||| 2 ^ (i + 1))) s k
theorem y_mk_s {n r k : Nat} {s : Nat → Nat → Nat} : y_mk n r s (k + 1) = sU (y_mk n r s k) 21 r (if y_has (y_mk n r s k) n (k + 1) = true then y_mk n r s k 21 r else y_mk n r s k 21 r ||| 2 ^ (k + 1)) := rfl
theorem bY_mk {n r : Nat} {s : Nat → Nat → Nat} (h : bY s) : ∀ k, k < 49 → bY (y_mk n r s k)
  | 0, _ => h
  | k + 1, hk => by
    rw [y_mk_s]
    split
    · exact bY_sU (bY_mk h k (by omega)) (bY_mk h k (by omega) 21 r)
    · exact bY_sU (bY_mk h k (by omega)) (or_pow_lt (bY_mk h k (by omega) 21 r) hk)
theorem y_mk_ne {n r f j : Nat} {s : Nat → Nat → Nat} (h : f ≠ 21) : ∀ k, y_mk n r s k f j = s f j
  | 0 => rfl
  | k + 1 => by rw [y_mk_s, sU_nef h, y_mk_ne h k]
def y_ls (s : Nat → Nat → Nat) (r k : Nat) : Nat := it (fun k a => if (s 19 r).testBit k = true ∧ s 20 (5 * r + k) < a then s 20 (5 * r + k) else a) 48 k
theorem y_ls_s {s : Nat → Nat → Nat} {r k : Nat} : y_ls s r (k + 1) = if (s 19 r).testBit k = true ∧ s 20 (5 * r + k) < y_ls s r k then s 20 (5 * r + k) else y_ls s r k := rfl
theorem y_ls_le {s : Nat → Nat → Nat} {r : Nat} : ∀ k, y_ls s r k ≤ 48
  | 0 => Nat.le_refl _
  | k + 1 => by
    rw [y_ls_s]
    have := y_ls_le (s := s) (r := r) k
    split <;> omega
def y_dR (r : Nat) (s : Nat → Nat → Nat) (k : Nat) : Nat → Nat → Nat := it (fun k s => if s 0 k ≠ 0 ∧ s 2 k = r then y_del k 48 s else s) s k
theorem y_dR_s {r k : Nat} {s : Nat → Nat → Nat} : y_dR r s (k + 1) = if y_dR r s k 0 k ≠ 0 ∧ y_dR r s k 2 k = r then y_del k 48 (y_dR r s k) else y_dR r s k := rfl
def y_dROK (r : Nat) (s : Nat → Nat → Nat) : Prop := ∀ k, k < 5 → y_dR r s k 0 k ≠ 0 ∧ y_dR r s k 2 k = r → y_delOK k 48 (y_dR r s k)
theorem bY_dR {r : Nat} {s : Nat → Nat → Nat} (h : bY s) (ok : y_dROK r s) : ∀ k, k ≤ 5 → bY (y_dR r s k)
  | 0, _ => h
  | k + 1, hk => by
    rw [y_dR_s]
    split
    · rename_i q
      exact bY_del 48 _ (bY_dR h ok k (by omega)) (ok k (by omega) q)
    · exact bY_dR h ok k (by omega)
def u_s1 (τ : Nat → Nat → Nat) (n r : Nat) : Nat → Nat → Nat := (y_nw n r (y_rq n r τ 48).1 2).1
def u_s2 (τ : Nat → Nat → Nat) (n r : Nat) : Nat → Nat → Nat := sU (u_s1 τ n r) 20 (5 * r + n) (y_reach (u_s1 τ n r) n)
def u_s3 (τ : Nat → Nat → Nat) (n r : Nat) : Nat → Nat → Nat := y_mk n r (u_s2 τ n r) (u_s2 τ n r 18 r)
def u_s4 (τ : Nat → Nat → Nat) (n r : Nat) : Nat → Nat → Nat := sU (u_s3 τ n r) 3 n (y_ls (u_s3 τ n r) r 5)
def u_s5 (τ : Nat → Nat → Nat) (n r : Nat) : Nat → Nat → Nat := sU (y_dR r (u_s4 τ n r) 5) 6 n 0
def u_s6 (τ : Nat → Nat → Nat) (n r : Nat) : Nat → Nat → Nat := if y_str (u_s5 τ n r) n 5 = true then y_form (u_s5 τ n r) (u_s5 τ n r 1 n) else y_pass (u_s5 τ n r) n r
def u_a (τ : Nat → Nat → Nat) (n r : Nat) : Nat := (y_rq n r τ 48).2 + (y_nw n r (y_rq n r τ 48).1 2).2
def y_visOK (τ : Nat → Nat → Nat) (n r : Nat) : Prop := y_nwOK n r (y_rq n r τ 48).1 ∧ y_dROK r (u_s4 τ n r) ∧ (y_str (u_s5 τ n r) n 5 = true → y_formOK (u_s5 τ n r) (u_s5 τ n r 1 n))
theorem bY_u1 {n r : Nat} {τ : Nat → Nat → Nat} (h : bY τ) (hr : r < 520) (ok : y_visOK τ n r) : bY (u_s1 τ n r) := bY_nw (bY_rq h 48) hr ok.1 2 (by decide)
theorem y_reach_le {τ : Nat → Nat → Nat} {n : Nat} : y_reach τ n ≤ 48 := by
  have := rch_le (fun q => y_has τ n q) 48 0
  unfold y_reach
  omega
theorem bY_u2 {n r : Nat} {τ : Nat → Nat → Nat} (h : bY τ) (hr : r < 520) (ok : y_visOK τ n r) : bY (u_s2 τ n r) := bY_sU (bY_u1 h hr ok) (show _ < 49 from Nat.lt_succ_of_le y_reach_le)
theorem bY_u3 {n r : Nat} {τ : Nat → Nat → Nat} (h : bY τ) (hr : r < 520) (ok : y_visOK τ n r) : bY (u_s3 τ n r) := bY_mk (bY_u2 h hr ok) _ (bY_u2 h hr ok 18 r)
theorem bY_u4 {n r : Nat} {τ : Nat → Nat → Nat} (h : bY τ) (hr : r < 520) (ok : y_visOK τ n r) : bY (u_s4 τ n r) := bY_sU (bY_u3 h hr ok) (show _ < 49 from Nat.lt_succ_of_le (y_ls_le 5))
theorem bY_u5 {n r : Nat} {τ : Nat → Nat → Nat} (h : bY τ) (hr : r < 520) (ok : y_visOK τ n r) : bY (u_s5 τ n r) := bY_sU (bY_dR (bY_u4 h hr ok) ok.2.1 5 (by decide)) (by decide)
/-- the answers and the states behind them -/
def b_send (τ : Nat → Nat → Nat) (n s : Nat) : Int32 × (Nat → Nat → Nat) := if τ 0 n = 0 then (-2, τ) else if τ 10 0 = 48 then (-4, τ) else if y_qd τ n (τ 10 0) = 8 then (-4, τ) else (nI (τ 10 0 + 1), sU (sU (sU τ 10 0 (τ 10 0 + 1)) 11 (τ 10 0 + 1) n) 12 (τ 10 0 + 1) s)
def b_visit (τ : Nat → Nat → Nat) (n : Nat) : Int32 × (Nat → Nat → Nat) := if τ 0 n = 0 then (-2, τ) else if τ 17 (τ 2 n) = n + 1 then (nI (u_a τ n (τ 2 n)), u_s6 τ n (τ 2 n)) else (-1, τ)
def b_tick (τ : Nat → Nat → Nat) (n : Nat) : Int32 × (Nat → Nat → Nat) := if τ 0 n = 0 then (-2, τ) else if τ 6 n + 1 < 4 then (nI 0, sU τ 6 n (τ 6 n + 1)) else (nI 1, y_form (sU τ 6 n (τ 6 n + 1)) (τ 1 n))
def y_gn (n : Nat) (τ : Nat → Nat → Nat) (k : Nat) : Nat → Nat → Nat := it (fun i s => sU s 13 (i + 1) (b2 (decide (s 13 (i + 1) ≠ 0 ∨ (s 11 (i + 1) = n ∧ s 15 (i + 1) = 0))))) τ k
theorem y_gn_s {n k : Nat} {τ : Nat → Nat → Nat} : y_gn n τ (k + 1) = sU (y_gn n τ k) 13 (k + 1) (b2 (decide (y_gn n τ k 13 (k + 1) ≠ 0 ∨ (y_gn n τ k 11 (k + 1) = n ∧ y_gn n τ k 15 (k + 1) = 0)))) := rfl
theorem bY_gn {n : Nat} {τ : Nat → Nat → Nat} (h : bY τ) : ∀ k, bY (y_gn n τ k)
  | 0 => h
  | k + 1 => by
    rw [y_gn_s]
    exact bY_sU (bY_gn h k) (show b2 _ < 2 from Nat.lt_succ_of_le (b2_le _))
theorem y_gn_ne {n f j : Nat} {τ : Nat → Nat → Nat} (h : f ≠ 13) : ∀ k, y_gn n τ k f j = τ f j
  | 0 => rfl
  | k + 1 => by rw [y_gn_s, sU_nef h, y_gn_ne h k]
def b_crash (τ : Nat → Nat → Nat) (n : Nat) : Int32 × (Nat → Nat → Nat) := if τ 0 n = 0 then (nI 0, τ) else (nI 1, y_gn n (sU (sU (y_untok τ n) 0 n 0) 5 n 0) (τ 10 0))
def b_restart (τ : Nat → Nat → Nat) (n : Nat) : Int32 × (Nat → Nat → Nat) := if τ 0 n = 0 then (nI 1, y_clean (sU (y_newR (sU τ 0 n 1) (2 ^ n) n) 2 n (τ 16 0 + 1)) n) else (nI 0, τ)
def b_drop (τ : Nat → Nat → Nat) (n : Nat) : Int32 × (Nat → Nat → Nat) := if τ 0 n = 0 then (nI 0, τ) else if τ 17 (τ 2 n) = 0 then (nI 0, τ) else (nI 1, sU τ 17 (τ 2 n) 0)
def b_ring (τ : Nat → Nat → Nat) (n : Nat) : Int32 := if τ 0 n = 0 then -2 else nI (τ 2 n)
def b_members (τ : Nat → Nat → Nat) (n : Nat) : Int32 := if τ 0 n = 0 then -2 else nI (τ 19 (τ 2 n))
def b_token (τ : Nat → Nat → Nat) (n : Nat) : Int32 := if τ 0 n = 0 then -2 else nI (τ 17 (τ 2 n)) - 1
def b_last (τ : Nat → Nat → Nat) (n : Nat) : Int32 := if τ 0 n = 0 then -2 else if τ 17 (τ 2 n) = 0 then -1 else nI (τ 18 (τ 2 n))
def y_cnt (x k : Nat) : Nat := it (fun i c => c + b2 (x.testBit (i + 1))) 0 k
theorem y_cnt_s {x k : Nat} : y_cnt x (k + 1) = y_cnt x k + b2 (x.testBit (k + 1)) := rfl
def b_requests (τ : Nat → Nat → Nat) (n : Nat) : Int32 := if τ 0 n = 0 then -2 else if τ 17 (τ 2 n) = 0 then -1 else nI (y_cnt (τ 21 (τ 2 n)) 48)
def b_reach (τ : Nat → Nat → Nat) (n : Nat) : Int32 := if τ 0 n = 0 then -2 else nI (y_reach τ n)
def b_line (τ : Nat → Nat → Nat) (n : Nat) : Int32 := if τ 0 n = 0 then -2 else nI (τ 3 n)
def b_waiting (τ : Nat → Nat → Nat) (n : Nat) : Int32 := if τ 0 n = 0 then -2 else nI (y_qd τ n (τ 10 0))
def b_stamp (τ : Nat → Nat → Nat) (m : Nat) : Nat := if τ 15 m = 0 then 0 else τ 15 m + 64 * τ 14 m
end PUREY2
