/-! 11.node: what the methods of Node do -/
section NODE
variable {l : Launch} {D : va_G} {ty : Nat → ClassId} {base b : Nat} {σ : Nat → Nat → Nat} {ρ ξ : List va_E}
set_option maxRecDepth 100000 in
set_option maxHeartbeats 4000000 in
theorem k_N_isUp {post : Int32 → List va_E → Prop} {n : Nat} (hn : n < 5) (k : post (nI (b2 (decide (σ 1 n ≠ 0)))) (memX σ ++ ρ)) : pv_M l D ty base b 0 0 0 (fun _ => True) y_N_isUp c_N_isUp 1 (some .boolean) [.ref (pN n + 1)] (memX σ ++ ρ) (pv_QI D ty base b post) := by
  refine pv_enter [some (.ref (pN n + 1))] (by decide) (fun _ => rfl) (fun _ => Nat.le_of_ble_eq_true rfl) ?_
  refine pv_aload_n d_N_isUp_0 rfl rfl ?_
  refine gN_ring d_N_isUp_1 ff_N_22 (by first | assumption | omega) ?_
  refine pv_ifnullX 11 (by decide) d_N_isUp_4 (fun hnull => ?_) (fun rr hring => ?_)
  · refine pv_iconst d_N_isUp_11 (nI 0) (by decide) ?_
    refine pv_zret d_N_isUp_12 (by first | rfl | decide) ?_
    first | (simpa [b2, hnull] using k) | (simpa [b2, hring] using k)
  · refine pv_iconst d_N_isUp_7 (nI 1) (by decide) ?_
    refine pv_goto 12 (by decide) d_N_isUp_8 ?_
    refine pv_zret d_N_isUp_12 (by first | rfl | decide) ?_
    first | (simpa [b2, hnull] using k) | (simpa [b2, hring] using k)

set_option maxRecDepth 100000 in
set_option maxHeartbeats 4000000 in
theorem k_N_holds {post : Int32 → List va_E → Prop} {n q : Nat} (hn : n < 5) (hb : bX σ) (hq : q < 49) (k : post (nI (b2 ((σ 2 n).testBit q))) (memX σ ++ ρ)) : pv_M l D ty base b 0 0 0 (fun _ => True) y_N_holds c_N_holds 2 (some .boolean) [.ref (pN n + 1), .int (nI q)] (memX σ ++ ρ) (pv_QI D ty base b post) := by
  refine pv_enter [some (.ref (pN n + 1)), some (.int (nI q))] (by decide) (fun _ => rfl) (fun _ => Nat.le_of_ble_eq_true rfl) ?_
  have hb2 : σ 2 n < 2 ^ 49 := hb 2 n
  refine pv_aload_n d_N_holds_0 rfl rfl ?_
  refine gN_held d_N_holds_1 ff_N_26 (by first | assumption | omega) ?_
  refine pv_lconst d_N_holds_4 (lN 1) (by decide) ?_
  refine pv_iload_n d_N_holds_5 rfl rfl ?_
  refine pv_lshl1 d_N_holds_6 (by first | assumption | omega) ?_
  first | refine pv_landN d_N_holds_7 ?_ | refine pv_landC d_N_holds_7 ?_
  refine pv_lconst d_N_holds_8 (lN 0) (by decide) ?_
  refine pv_lcmp_eq 17 d_N_holds_9 d_N_holds_10 (by decide) (by first | omega | exact Nat.lt_of_le_of_lt Nat.and_le_left (by first | assumption | omega) | exact Nat.lt_of_le_of_lt Nat.and_le_right (by decide)) (by first | omega | exact Nat.lt_of_le_of_lt Nat.and_le_left (by first | assumption | omega) | exact Nat.lt_of_le_of_lt Nat.and_le_right (by decide)) (fun h10 => ?_) (fun h10 => ?_)
  · refine pv_iconst d_N_holds_17 (nI 0) (by decide) ?_
    refine pv_zret d_N_holds_18 (by first | rfl | decide) ?_
    first | (have h9 := tb_and.mp h10; simpa [b2, h9] using k) | (have h9 := mt tb_and.mpr h10; simp only [Bool.not_eq_false] at h9; simpa [b2, h9] using k)
  · refine pv_iconst d_N_holds_13 (nI 1) (by decide) ?_
    refine pv_goto 18 (by decide) d_N_holds_14 ?_
    refine pv_zret d_N_holds_18 (by first | rfl | decide) ?_
    first | (have h9 := tb_and.mp h10; simpa [b2, h9] using k) | (have h9 := mt tb_and.mpr h10; simp only [Bool.not_eq_false] at h9; simpa [b2, h9] using k)

set_option maxRecDepth 100000 in
set_option maxHeartbeats 4000000 in
theorem k_N_hold {post : List va_E → Prop} {n q : Nat} (hn : n < 5) (hq : q < 49) (k : post (memX (x_hold σ n q) ++ ρ)) : pv_M l D ty base b 0 0 0 (fun _ => True) y_N_hold c_N_hold 2 none [.ref (pN n + 1), .int (nI q)] (memX σ ++ ρ) (pv_QV D ty base b post) := by
  refine pv_enter [some (.ref (pN n + 1)), some (.int (nI q))] (by decide) (fun _ => rfl) (fun _ => Nat.le_of_ble_eq_true rfl) ?_
  refine pv_aload_n d_N_hold_0 rfl rfl ?_
  refine pv_dup d_N_hold_1 rfl ?_
  refine gN_held d_N_hold_2 ff_N_26 (by first | assumption | omega) ?_
  refine pv_lconst d_N_hold_5 (lN 1) (by decide) ?_
  refine pv_iload_n d_N_hold_6 rfl rfl ?_
  refine pv_lshl1 d_N_hold_7 (by first | assumption | omega) ?_
  refine pv_lorN d_N_hold_8 ?_
  refine pN_held d_N_hold_9 ff_N_26 (by first | assumption | omega) ?_
  refine pv_vret d_N_hold_12 ?_
  exact k

set_option maxRecDepth 100000 in
set_option maxHeartbeats 4000000 in
theorem k_N_receive {post : List va_E → Prop} {n q : Nat} (hn : n < 5) (hb : bX σ) (hq : q < 49) (k : post (memX (x_recv σ n q) ++ ρ)) : pv_M l D ty base b 1 0 0 (fun _ => True) y_N_receive c_N_receive 2 none [.ref (pN n + 1), .int (nI q)] (memX σ ++ ρ) (pv_QV D ty base b post) := by
  refine pv_enter [some (.ref (pN n + 1)), some (.int (nI q))] (by decide) (fun _ => rfl) (fun _ => Nat.le_of_ble_eq_true rfl) ?_
  have hb8 : σ 8 n < 21 := hb 8 n
  refine pv_aload_n d_N_receive_0 rfl rfl ?_
  refine gN_deafness d_N_receive_1 ff_N_30 (by first | assumption | omega) ?_
  first | refine pv_ifN_le 20 (by decide) d_N_receive_4 (by first | assumption | omega) (fun h4 => ?_) (fun h4 => ?_) | refine pv_if_le 20 (by decide) d_N_receive_4 (fun h4 => ?_) (fun h4 => ?_)
  · refine pv_aload_n d_N_receive_20 rfl rfl ?_
    refine pv_iload_n d_N_receive_21 rfl rfl ?_
    refine pv_callV1V d_N_receive_22 (k_N_hold (by first | assumption | omega) (by first | assumption | omega) ?_) sb_N_hold wm_N_33 (gx_N (by first | assumption | omega)) rfl ⟨wi_N_hold, we_N_hold⟩ (by decide) (by decide) (Nat.le_of_ble_eq_true rfl) (by decide) (by decide)
    refine pv_vret d_N_receive_25 ?_
    first | (simpa [x_recv, h4] using k) | (rw [x_recv, if_pos h4] at k; exact k)
  · refine pv_aload_n d_N_receive_7 rfl rfl ?_
    refine pv_dup d_N_receive_8 rfl ?_
    refine gN_deafness d_N_receive_9 ff_N_30 (by first | assumption | omega) ?_
    refine pv_iconst d_N_receive_12 (nI 1) (by decide) ?_
    first | refine pv_isubN d_N_receive_13 (by omega) ?_ | refine pv_isub d_N_receive_13 ?_
    refine pN_deafness d_N_receive_14 ff_N_30 (by first | assumption | omega) ?_
    refine pv_goto 25 (by decide) d_N_receive_17 ?_
    refine pv_vret d_N_receive_25 ?_
    first | (simpa [x_recv, h4] using k) | (rw [x_recv, if_pos h4] at k; exact k)

set_option maxRecDepth 100000 in
set_option maxHeartbeats 4000000 in
theorem k_N_heldWithoutGap {post : Int32 → List va_E → Prop} {n : Nat} (hn : n < 5) (hb : bX σ) (k : post (nI (x_reach σ n)) (memX σ ++ ρ)) : pv_M l D ty base b 1 0 0 (fun _ => True) y_N_heldWithoutGap c_N_heldWithoutGap 2 (some .int) [.ref (pN n + 1)] (memX σ ++ ρ) (pv_QI D ty base b post) := by
  refine pv_enter [some (.ref (pN n + 1)), none] (by decide) (fun _ => rfl) (fun _ => Nat.le_of_ble_eq_true rfl) ?_
  have loop : ∀ (j i : Nat), i + j = 48 → post (nI (rch (fun q => (σ 2 n).testBit q) j i)) (memX σ ++ ρ) → pv_V l D ty base b c_N_heldWithoutGap 2 y_N_heldWithoutGap.cls (some .int) y_N_heldWithoutGap.name (pv_rm 1 0 0) (fun _ => True) (pv_Qf base 0 0 (pv_QI D ty base b post)) 0 0 2 [some (.ref (pN n + 1)), some (.int (nI i))] [] (memX σ ++ ρ) := by
    intro j
    induction j with
    | zero =>
      intro i hi k
      refine pv_iload_n d_N_heldWithoutGap_2 rfl rfl ?_
      refine pv_bipush d_N_heldWithoutGap_3 (nI 48) (by decide) ?_
      first | refine pv_icmpN_ge 24 (by decide) d_N_heldWithoutGap_5 (by first | assumption | omega) (by first | assumption | omega) (fun h5 => ?_) (fun h5 => ?_) | refine pv_icmp_ge 24 (by decide) d_N_heldWithoutGap_5 (fun h5 => ?_) (fun h5 => ?_)
      · refine pv_iload_n d_N_heldWithoutGap_24 rfl rfl ?_
        refine pv_iret d_N_heldWithoutGap_25 ?_
        exact k
      · omega
    | succ j ih =>
      intro i hi k
      unfold rch at k
      refine pv_iload_n d_N_heldWithoutGap_2 rfl rfl ?_
      refine pv_bipush d_N_heldWithoutGap_3 (nI 48) (by decide) ?_
      first | refine pv_icmpN_ge 24 (by decide) d_N_heldWithoutGap_5 (by first | assumption | omega) (by first | assumption | omega) (fun h5 => ?_) (fun h5 => ?_) | refine pv_icmp_ge 24 (by decide) d_N_heldWithoutGap_5 (fun h5 => ?_) (fun h5 => ?_)
      · refine pv_iload_n d_N_heldWithoutGap_24 rfl rfl ?_
        refine pv_iret d_N_heldWithoutGap_25 ?_
        first | omega | (have hc := b2_0.mp h15; simpa [hc] using k)
      · refine pv_aload_n d_N_heldWithoutGap_8 rfl rfl ?_
        refine pv_iload_n d_N_heldWithoutGap_9 rfl rfl ?_
        refine pv_iconst d_N_heldWithoutGap_10 (nI 1) (by decide) ?_
        first | refine pv_iaddN d_N_heldWithoutGap_11 ?_ | refine pv_iadd d_N_heldWithoutGap_11 ?_
        refine pv_callV1I d_N_heldWithoutGap_12 (k_N_holds (by first | assumption | omega) hb (by first | assumption | omega) ?_) sb_N_holds wm_N_37 (gx_N (by first | assumption | omega)) rfl ⟨wi_N_holds, we_N_holds⟩ (by decide) (by decide) (Nat.le_of_ble_eq_true rfl) (by decide) (by decide)
        have hbb := b2_lt ((σ 2 n).testBit (i + 1))
        first | refine pv_ifN_eq 24 (by decide) d_N_heldWithoutGap_15 (by first | assumption | omega) (fun h15 => ?_) (fun h15 => ?_) | refine pv_if_eq 24 (by decide) d_N_heldWithoutGap_15 (fun h15 => ?_) (fun h15 => ?_)
        · refine pv_iload_n d_N_heldWithoutGap_24 rfl rfl ?_
          refine pv_iret d_N_heldWithoutGap_25 ?_
          first | omega | (have hc := b2_0.mp h15; simpa [hc] using k)
        · refine pv_inc1 d_N_heldWithoutGap_18 rfl (by decide) ?_
          refine pv_goto 2 (by decide) d_N_heldWithoutGap_21 ?_
          have hc := b2_n0.mp h15
          exact ih (i + 1) (by omega) (by simpa [hc] using k)
  refine pv_iconst d_N_heldWithoutGap_0 (nI 0) (by decide) ?_
  refine pv_ist1 d_N_heldWithoutGap_1 rfl (by decide) ?_
  exact loop 48 0 rfl k

set_option maxRecDepth 100000 in
set_option maxHeartbeats 4000000 in
theorem k_N_enqueue {post : List va_E → Prop} {n m : Nat} (hn : n < 5) (hb : bX σ) (k : post (memX (x_enq σ n m) ++ ρ)) : pv_M l D ty base b 0 0 0 (fun _ => True) y_N_enqueue c_N_enqueue 2 none [.ref (pN n + 1), .int (nI m)] (memX σ ++ ρ) (pv_QV D ty base b post) := by
  refine pv_enter [some (.ref (pN n + 1)), some (.int (nI m))] (by decide) (fun _ => rfl) (fun _ => Nat.le_of_ble_eq_true rfl) ?_
  have hb3 : σ 3 n < 9 := hb 3 n
  refine pv_aload_n d_N_enqueue_0 rfl rfl ?_
  refine gN_queued d_N_enqueue_1 ff_N_41 (by first | assumption | omega) ?_
  refine pv_bipush d_N_enqueue_4 (nI 8) (by decide) ?_
  first | refine pv_icmpN_ge 29 (by decide) d_N_enqueue_6 (by first | assumption | omega) (by first | assumption | omega) (fun h6 => ?_) (fun h6 => ?_) | refine pv_icmp_ge 29 (by decide) d_N_enqueue_6 (fun h6 => ?_) (fun h6 => ?_)
  · refine pv_vret d_N_enqueue_29 ?_
    first | (rw [x_enq, if_pos h6] at k; exact k) | (rw [x_enq, if_neg (by omega)] at k; exact k)
  · refine pv_aload_n d_N_enqueue_9 rfl rfl ?_
    refine gN_queue d_N_enqueue_10 ff_N_15 (by first | assumption | omega) ?_
    refine pv_aload_n d_N_enqueue_13 rfl rfl ?_
    refine gN_queued d_N_enqueue_14 ff_N_41 (by first | assumption | omega) ?_
    refine pv_iload_n d_N_enqueue_17 rfl rfl ?_
    refine s_queue d_N_enqueue_18 (by first | assumption | omega) (by first | assumption | omega) ?_
    refine pv_aload_n d_N_enqueue_19 rfl rfl ?_
    refine pv_dup d_N_enqueue_20 rfl ?_
    refine gN_queued d_N_enqueue_21 ff_N_41 (by first | assumption | omega) ?_
    rw [sU_nef (show (3 : Nat) ≠ 20 + n by omega)]
    refine pv_iconst d_N_enqueue_24 (nI 1) (by decide) ?_
    first | refine pv_iaddN d_N_enqueue_25 ?_ | refine pv_iadd d_N_enqueue_25 ?_
    refine pN_queued d_N_enqueue_26 ff_N_41 (by first | assumption | omega) ?_
    refine pv_vret d_N_enqueue_29 ?_
    first | (rw [x_enq, if_pos h6] at k; exact k) | (rw [x_enq, if_neg (by omega)] at k; exact k)

set_option maxRecDepth 100000 in
set_option maxHeartbeats 4000000 in
theorem k_N_append {post : List va_E → Prop} {n m : Nat} (hn : n < 5) (hb : bX σ) (k : post (memX (x_app σ n m) ++ ρ)) : pv_M l D ty base b 0 0 0 (fun _ => True) y_N_append c_N_append 2 none [.ref (pN n + 1), .int (nI m)] (memX σ ++ ρ) (pv_QV D ty base b post) := by
  refine pv_enter [some (.ref (pN n + 1)), some (.int (nI m))] (by decide) (fun _ => rfl) (fun _ => Nat.le_of_ble_eq_true rfl) ?_
  have hb4 : σ 4 n < 49 := hb 4 n
  refine pv_aload_n d_N_append_0 rfl rfl ?_
  refine gN_logged d_N_append_1 ff_N_50 (by first | assumption | omega) ?_
  refine pv_bipush d_N_append_4 (nI 48) (by decide) ?_
  first | refine pv_icmpN_ge 29 (by decide) d_N_append_6 (by first | assumption | omega) (by first | assumption | omega) (fun h6 => ?_) (fun h6 => ?_) | refine pv_icmp_ge 29 (by decide) d_N_append_6 (fun h6 => ?_) (fun h6 => ?_)
  · refine pv_vret d_N_append_29 ?_
    first | (rw [x_app, if_pos h6] at k; exact k) | (rw [x_app, if_neg (by omega)] at k; exact k)
  · refine pv_aload_n d_N_append_9 rfl rfl ?_
    refine gN_entries d_N_append_10 ff_N_19 (by first | assumption | omega) ?_
    refine pv_aload_n d_N_append_13 rfl rfl ?_
    refine gN_logged d_N_append_14 ff_N_50 (by first | assumption | omega) ?_
    refine pv_iload_n d_N_append_17 rfl rfl ?_
    refine s_entries d_N_append_18 (by first | assumption | omega) (by first | assumption | omega) ?_
    refine pv_aload_n d_N_append_19 rfl rfl ?_
    refine pv_dup d_N_append_20 rfl ?_
    refine gN_logged d_N_append_21 ff_N_50 (by first | assumption | omega) ?_
    rw [sU_nef (show (4 : Nat) ≠ 30 + n by omega)]
    refine pv_iconst d_N_append_24 (nI 1) (by decide) ?_
    first | refine pv_iaddN d_N_append_25 ?_ | refine pv_iadd d_N_append_25 ?_
    refine pN_logged d_N_append_26 ff_N_50 (by first | assumption | omega) ?_
    refine pv_vret d_N_append_29 ?_
    first | (rw [x_app, if_pos h6] at k; exact k) | (rw [x_app, if_neg (by omega)] at k; exact k)

theorem x_shift_ne {σ : Nat → Nat → Nat} {n f j : Nat} (h : f ≠ 20 + n) : ∀ k, x_shift n σ k f j = σ f j
  | 0 => rfl
  | k + 1 => by
    show sU (x_shift n σ k) (20 + n) k _ f j = _
    rw [sU_nef h, x_shift_ne h k]
set_option maxRecDepth 100000 in
set_option maxHeartbeats 4000000 in
theorem k_N_dequeue {post : Int32 → List va_E → Prop} {n : Nat} (hn : n < 5) (hb : bX σ) (h3 : 0 < σ 3 n) (k : post (nI (σ (20 + n) 0)) (memX (x_deq σ n) ++ ρ)) : pv_M l D ty base b 1 0 0 (fun _ => True) y_N_dequeue c_N_dequeue 3 (some .int) [.ref (pN n + 1)] (memX σ ++ ρ) (pv_QI D ty base b post) := by
  refine pv_enter [some (.ref (pN n + 1)), none, none] (by decide) (fun _ => rfl) (fun _ => Nat.le_of_ble_eq_true rfl) ?_
  have hb3 : σ 3 n < 9 := hb 3 n
  have xs3 : ∀ i, x_shift n σ i 3 n = σ 3 n := x_shift_ne (by omega)
  have loop : ∀ (j i : Nat), i + j = σ 3 n - 1 → pv_V l D ty base b c_N_dequeue 3 y_N_dequeue.cls (some .int) y_N_dequeue.name (pv_rm 1 0 0) (fun _ => True) (pv_Qf base 0 0 (pv_QI D ty base b post)) 0 0 9 [some (.ref (pN n + 1)), some (.int (nI (σ (20 + n) 0))), some (.int (nI (i + 1)))] [] (memX (x_shift n σ i) ++ ρ) := by
    intro j
    induction j with
    | zero =>
      intro i hi
      refine pv_iload_n d_N_dequeue_9 rfl rfl ?_
      refine pv_aload_n d_N_dequeue_10 rfl rfl ?_
      refine gN_queued d_N_dequeue_11 ff_N_41 (by first | assumption | omega) ?_
      rw [xs3]
      first | refine pv_icmpN_ge 37 (by decide) d_N_dequeue_14 (by first | assumption | omega) (by first | assumption | omega) (fun h14 => ?_) (fun h14 => ?_) | refine pv_icmp_ge 37 (by decide) d_N_dequeue_14 (fun h14 => ?_) (fun h14 => ?_)
      · refine pv_aload_n d_N_dequeue_37 rfl rfl ?_
        refine pv_iconst d_N_dequeue_38 (nI 0) (by decide) ?_
        refine pv_aload_n d_N_dequeue_39 rfl rfl ?_
        refine gN_queued d_N_dequeue_40 ff_N_41 (by first | assumption | omega) ?_
        rw [xs3]
        refine pv_iconst d_N_dequeue_43 (nI 1) (by decide) ?_
        first | refine pv_isubN d_N_dequeue_44 (by omega) ?_ | refine pv_isub d_N_dequeue_44 ?_
        refine pv_mmaxN d_N_dequeue_45 wm_N_44 ws_max wn_Math wc_max (by decide) (by decide) (Nat.le_of_ble_eq_true rfl) (by decide) (by decide) (by first | assumption | omega) (by first | assumption | omega) ?_
        refine pN_queued d_N_dequeue_48 ff_N_41 (by first | assumption | omega) ?_
        refine pv_iload_n d_N_dequeue_51 rfl rfl ?_
        refine pv_iret d_N_dequeue_52 ?_
        rw [Nat.zero_max]
        obtain rfl : i = σ 3 n - 1 := by omega
        exact k
      · omega
    | succ j ih =>
      intro i hi
      refine pv_iload_n d_N_dequeue_9 rfl rfl ?_
      refine pv_aload_n d_N_dequeue_10 rfl rfl ?_
      refine gN_queued d_N_dequeue_11 ff_N_41 (by first | assumption | omega) ?_
      rw [xs3]
      first | refine pv_icmpN_ge 37 (by decide) d_N_dequeue_14 (by first | assumption | omega) (by first | assumption | omega) (fun h14 => ?_) (fun h14 => ?_) | refine pv_icmp_ge 37 (by decide) d_N_dequeue_14 (fun h14 => ?_) (fun h14 => ?_)
      · omega
      · refine pv_aload_n d_N_dequeue_17 rfl rfl ?_
        refine gN_queue d_N_dequeue_18 ff_N_15 (by first | assumption | omega) ?_
        refine pv_iload_n d_N_dequeue_21 rfl rfl ?_
        refine pv_iconst d_N_dequeue_22 (nI 1) (by decide) ?_
        first | refine pv_isubN d_N_dequeue_23 (by omega) ?_ | refine pv_isub d_N_dequeue_23 ?_
        refine pv_aload_n d_N_dequeue_24 rfl rfl ?_
        refine gN_queue d_N_dequeue_25 ff_N_15 (by first | assumption | omega) ?_
        refine pv_iload_n d_N_dequeue_28 rfl rfl ?_
        refine l_queue d_N_dequeue_29 (by first | assumption | omega) (by first | assumption | omega) ?_
        refine s_queue d_N_dequeue_30 (by first | assumption | omega) (by first | assumption | omega) ?_
        refine pv_inc2 d_N_dequeue_31 rfl (by decide) ?_
        refine pv_goto 9 (by decide) d_N_dequeue_34 ?_
        exact ih (i + 1) (by omega)
  refine pv_aload_n d_N_dequeue_0 rfl rfl ?_
  refine gN_queue d_N_dequeue_1 ff_N_15 (by first | assumption | omega) ?_
  refine pv_iconst d_N_dequeue_4 (nI 0) (by decide) ?_
  refine l_queue d_N_dequeue_5 (by first | assumption | omega) (by first | assumption | omega) ?_
  refine pv_ist1 d_N_dequeue_6 rfl (by decide) ?_
  refine pv_iconst d_N_dequeue_7 (nI 1) (by decide) ?_
  refine pv_ist2 d_N_dequeue_8 rfl (by decide) ?_
  exact loop (σ 3 n - 1) 0 (by omega)

set_option maxRecDepth 100000 in
set_option maxHeartbeats 4000000 in
theorem k_N_leaveRing {post : List va_E → Prop} {n : Nat} (hn : n < 5) (hb : bX σ) (k : post (memX (x_leave σ n) ++ ρ)) : pv_M l D ty base b 0 0 0 (fun _ => True) y_N_leaveRing c_N_leaveRing 1 none [.ref (pN n + 1)] (memX σ ++ ρ) (pv_QV D ty base b post) := by
  refine pv_enter [some (.ref (pN n + 1))] (by decide) (fun _ => rfl) (fun _ => Nat.le_of_ble_eq_true rfl) ?_
  have hb1 : σ 1 n < 7 := hb 1 n
  have hb12 : ∀ i, σ 12 i < 6 := hb 12
  refine pv_aload_n d_N_leaveRing_0 rfl rfl ?_
  refine gN_ring d_N_leaveRing_1 ff_N_22 (by first | assumption | omega) ?_
  refine pv_ifnullX 29 (by decide) d_N_leaveRing_4 (fun hnull => ?_) (fun rr hring => ?_)
  · refine pv_aload_n d_N_leaveRing_29 rfl rfl ?_
    refine pv_null d_N_leaveRing_30 ?_
    refine pN_ring0 d_N_leaveRing_31 ff_N_22 (by first | assumption | omega) ?_
    refine pv_aload_n d_N_leaveRing_34 rfl rfl ?_
    refine pv_lconst d_N_leaveRing_35 (lN 0) (by decide) ?_
    refine pN_held d_N_leaveRing_36 ff_N_26 (by first | assumption | omega) ?_
    refine pv_aload_n d_N_leaveRing_39 rfl rfl ?_
    refine pv_iconst d_N_leaveRing_40 (nI 0) (by decide) ?_
    refine pN_line d_N_leaveRing_41 ff_N_61 (by first | assumption | omega) ?_
    refine pv_aload_n d_N_leaveRing_44 rfl rfl ?_
    refine pv_iconst d_N_leaveRing_45 (nI 0) (by decide) ?_
    refine pN_place d_N_leaveRing_46 ff_N_64 (by first | assumption | omega) ?_
    refine pv_aload_n d_N_leaveRing_49 rfl rfl ?_
    refine pv_iconst d_N_leaveRing_50 (nI 0) (by decide) ?_
    refine pN_timer d_N_leaveRing_51 ff_N_67 (by first | assumption | omega) ?_
    refine pv_vret d_N_leaveRing_54 ?_
    first | (simp only [x_leave, x_untok, hnull] at k; exact k) | (have h9 := mt (tk_eq (Nat.lt_of_lt_of_le (hb12 rr) (by decide)) (by omega)).mpr h18; simp only [x_leave, x_untok, hring, if_neg h9] at k; exact k) | (have h9 := (tk_eq (Nat.lt_of_lt_of_le (hb12 rr) (by decide)) (by omega)).mp h18; simp only [x_leave, x_untok, hring, if_pos h9] at k; exact k)
  · refine pv_aload_n d_N_leaveRing_7 rfl rfl ?_
    refine gN_ring d_N_leaveRing_8 ff_N_22 (by first | assumption | omega) ?_
    first | refine pv_known (by assumption) ?_ | refine pv_splitX (fun hnull => by omega) (fun rr hring => ?_)
    refine gR_tokenAt d_N_leaveRing_11 ff_N_56 (by first | assumption | omega) ?_
    refine pv_aload_n d_N_leaveRing_14 rfl rfl ?_
    refine gN_number d_N_leaveRing_15 ff_N_9 (by first | assumption | omega) ?_
    first | refine pv_icmpN_ne 29 (by decide) d_N_leaveRing_18 (by first | assumption | omega) (by first | assumption | omega) (fun h18 => ?_) (fun h18 => ?_) | refine pv_icmp_ne 29 (by decide) d_N_leaveRing_18 (fun h18 => ?_) (fun h18 => ?_)
    · refine pv_aload_n d_N_leaveRing_29 rfl rfl ?_
      refine pv_null d_N_leaveRing_30 ?_
      refine pN_ring0 d_N_leaveRing_31 ff_N_22 (by first | assumption | omega) ?_
      refine pv_aload_n d_N_leaveRing_34 rfl rfl ?_
      refine pv_lconst d_N_leaveRing_35 (lN 0) (by decide) ?_
      refine pN_held d_N_leaveRing_36 ff_N_26 (by first | assumption | omega) ?_
      refine pv_aload_n d_N_leaveRing_39 rfl rfl ?_
      refine pv_iconst d_N_leaveRing_40 (nI 0) (by decide) ?_
      refine pN_line d_N_leaveRing_41 ff_N_61 (by first | assumption | omega) ?_
      refine pv_aload_n d_N_leaveRing_44 rfl rfl ?_
      refine pv_iconst d_N_leaveRing_45 (nI 0) (by decide) ?_
      refine pN_place d_N_leaveRing_46 ff_N_64 (by first | assumption | omega) ?_
      refine pv_aload_n d_N_leaveRing_49 rfl rfl ?_
      refine pv_iconst d_N_leaveRing_50 (nI 0) (by decide) ?_
      refine pN_timer d_N_leaveRing_51 ff_N_67 (by first | assumption | omega) ?_
      refine pv_vret d_N_leaveRing_54 ?_
      first | (simp only [x_leave, x_untok, hnull] at k; exact k) | (have h9 := mt (tk_eq (Nat.lt_of_lt_of_le (hb12 rr) (by decide)) (by omega)).mpr h18; simp only [x_leave, x_untok, hring, if_neg h9] at k; exact k) | (have h9 := (tk_eq (Nat.lt_of_lt_of_le (hb12 rr) (by decide)) (by omega)).mp h18; simp only [x_leave, x_untok, hring, if_pos h9] at k; exact k)
    · refine pv_aload_n d_N_leaveRing_21 rfl rfl ?_
      refine gN_ring d_N_leaveRing_22 ff_N_22 (by first | assumption | omega) ?_
      first | refine pv_known (by assumption) ?_ | refine pv_splitX (fun hnull => by omega) (fun rr hring => ?_)
      refine pv_iconst d_N_leaveRing_25 (-1) (by decide) ?_
      refine pR_tokenAtM d_N_leaveRing_26 ff_N_56 (by first | assumption | omega) ?_
      refine pv_aload_n d_N_leaveRing_29 rfl rfl ?_
      refine pv_null d_N_leaveRing_30 ?_
      refine pN_ring0 d_N_leaveRing_31 ff_N_22 (by first | assumption | omega) ?_
      refine pv_aload_n d_N_leaveRing_34 rfl rfl ?_
      refine pv_lconst d_N_leaveRing_35 (lN 0) (by decide) ?_
      refine pN_held d_N_leaveRing_36 ff_N_26 (by first | assumption | omega) ?_
      refine pv_aload_n d_N_leaveRing_39 rfl rfl ?_
      refine pv_iconst d_N_leaveRing_40 (nI 0) (by decide) ?_
      refine pN_line d_N_leaveRing_41 ff_N_61 (by first | assumption | omega) ?_
      refine pv_aload_n d_N_leaveRing_44 rfl rfl ?_
      refine pv_iconst d_N_leaveRing_45 (nI 0) (by decide) ?_
      refine pN_place d_N_leaveRing_46 ff_N_64 (by first | assumption | omega) ?_
      refine pv_aload_n d_N_leaveRing_49 rfl rfl ?_
      refine pv_iconst d_N_leaveRing_50 (nI 0) (by decide) ?_
      refine pN_timer d_N_leaveRing_51 ff_N_67 (by first | assumption | omega) ?_
      refine pv_vret d_N_leaveRing_54 ?_
      first | (simp only [x_leave, x_untok, hnull] at k; exact k) | (have h9 := mt (tk_eq (Nat.lt_of_lt_of_le (hb12 rr) (by decide)) (by omega)).mpr h18; simp only [x_leave, x_untok, hring, if_neg h9] at k; exact k) | (have h9 := (tk_eq (Nat.lt_of_lt_of_le (hb12 rr) (by decide)) (by omega)).mp h18; simp only [x_leave, x_untok, hring, if_pos h9] at k; exact k)

theorem bX_untok {σ : Nat → Nat → Nat} {n : Nat} (h : bX σ) : bX (x_untok σ n) := by
  unfold x_untok
  split
  · exact h
  · split
    · exact bX_sU h (by decide)
    · exact h
theorem bX_leave {σ : Nat → Nat → Nat} {n : Nat} (h : bX σ) : bX (x_leave σ n) := bX_sU (bX_sU (bX_sU (bX_sU (bX_sU (bX_untok h) (by decide)) (by decide)) (by decide)) (by decide)) (by decide)
theorem bX_enter {σ : Nat → Nat → Nat} {n r : Nat} (h : bX σ) (hr : r < 6) : bX (x_enter σ n r) := bX_sU (bX_leave h) (show r + 1 < 7 by omega)
theorem bX_down {σ : Nat → Nat → Nat} {n : Nat} (h : bX σ) : bX (x_down σ n) := bX_sU (bX_sU (bX_leave h) (by decide)) (by decide)
set_option maxRecDepth 100000 in
set_option maxHeartbeats 4000000 in
theorem k_N_enter {post : List va_E → Prop} {n r : Nat} (hn : n < 5) (hb : bX σ) (k : post (memX (x_enter σ n r) ++ ρ)) : pv_M l D ty base b 1 0 0 (fun _ => True) y_N_enter c_N_enter 2 none [.ref (pN n + 1), .ref (pR r + 1)] (memX σ ++ ρ) (pv_QV D ty base b post) := by
  refine pv_enter [some (.ref (pN n + 1)), some (.ref (pR r + 1))] (by decide) (fun _ => rfl) (fun _ => Nat.le_of_ble_eq_true rfl) ?_
  refine pv_aload_n d_N_enter_0 rfl rfl ?_
  refine pv_callV0V d_N_enter_1 (k_N_leaveRing (by first | assumption | omega) hb ?_) sb_N_leaveRing wm_N_53 (gx_N (by first | assumption | omega)) rfl ⟨wi_N_leaveRing, we_N_leaveRing⟩ (by decide) (by decide) (Nat.le_of_ble_eq_true rfl) (by decide) (by decide)
  refine pv_aload_n d_N_enter_4 rfl rfl ?_
  refine pv_aload_n d_N_enter_5 rfl rfl ?_
  refine pN_ringr d_N_enter_6 ff_N_22 (by first | assumption | omega) ?_
  refine pv_vret d_N_enter_9 ?_
  exact k

set_option maxRecDepth 100000 in
set_option maxHeartbeats 4000000 in
theorem k_N_goDown {post : List va_E → Prop} {n : Nat} (hn : n < 5) (hb : bX σ) (k : post (memX (x_down σ n) ++ ρ)) : pv_M l D ty base b 1 0 0 (fun _ => True) y_N_goDown c_N_goDown 1 none [.ref (pN n + 1)] (memX σ ++ ρ) (pv_QV D ty base b post) := by
  refine pv_enter [some (.ref (pN n + 1))] (by decide) (fun _ => rfl) (fun _ => Nat.le_of_ble_eq_true rfl) ?_
  refine pv_aload_n d_N_goDown_0 rfl rfl ?_
  refine pv_callV0V d_N_goDown_1 (k_N_leaveRing (by first | assumption | omega) hb ?_) sb_N_leaveRing wm_N_53 (gx_N (by first | assumption | omega)) rfl ⟨wi_N_leaveRing, we_N_leaveRing⟩ (by decide) (by decide) (Nat.le_of_ble_eq_true rfl) (by decide) (by decide)
  refine pv_aload_n d_N_goDown_4 rfl rfl ?_
  refine pv_iconst d_N_goDown_5 (nI 0) (by decide) ?_
  refine pN_queued d_N_goDown_6 ff_N_41 (by first | assumption | omega) ?_
  refine pv_aload_n d_N_goDown_9 rfl rfl ?_
  refine pv_iconst d_N_goDown_10 (nI 0) (by decide) ?_
  refine pN_deafness d_N_goDown_11 ff_N_30 (by first | assumption | omega) ?_
  refine pv_vret d_N_goDown_14 ?_
  exact k

end NODE
