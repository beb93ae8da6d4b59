/-! 12.ring: what the methods of Ring, Messages and the static methods do -/
section RING
variable {l : Launch} {D : va_G} {ty : Nat → ClassId} {base b : Nat} {σ : Nat → Nat → Nat} {ρ ξ : List va_E}
variable {M : List va_E}
set_option maxRecDepth 100000 in
set_option maxHeartbeats 4000000 in
theorem k_O_isNode_no {post : Int32 → List va_E → Prop} {x : Int32} (h : x < 0 ∨ nI 5 ≤ x) (k : post (nI 0) M) : pv_M l D ty base b 0 0 0 (fun _ => True) y_O_isNode c_O_isNode 1 (some .boolean) [.int x] (M) (pv_QI D ty base b post) := by
  refine pv_enter [some (.int x)] (by decide) (fun _ => rfl) (fun _ => Nat.le_of_ble_eq_true rfl) ?_
  refine pv_iload_n d_O_isNode_0 rfl rfl ?_
  refine pv_if_lt 13 (by decide) d_O_isNode_1 (fun h1 => ?_) (fun h1 => ?_)
  · refine pv_iconst d_O_isNode_13 (nI 0) (by decide) ?_
    refine pv_zret d_O_isNode_14 (by first | rfl | decide) ?_
    first | exact k | exact absurd h (by intro q; rcases q with q | q <;> contradiction)
  · refine pv_iload_n d_O_isNode_4 rfl rfl ?_
    refine pv_iconst d_O_isNode_5 (nI 5) (by decide) ?_
    first | refine pv_icmpN_ge 13 (by decide) d_O_isNode_6 (by first | assumption | omega) (by first | assumption | omega) (fun h6 => ?_) (fun h6 => ?_) | refine pv_icmp_ge 13 (by decide) d_O_isNode_6 (fun h6 => ?_) (fun h6 => ?_)
    · refine pv_iconst d_O_isNode_13 (nI 0) (by decide) ?_
      refine pv_zret d_O_isNode_14 (by first | rfl | decide) ?_
      first | exact k | exact absurd h (by intro q; rcases q with q | q <;> contradiction)
    · refine pv_iconst d_O_isNode_9 (nI 1) (by decide) ?_
      refine pv_goto 14 (by decide) d_O_isNode_10 ?_
      refine pv_zret d_O_isNode_14 (by first | rfl | decide) ?_
      first | exact k | exact absurd h (by intro q; rcases q with q | q <;> contradiction)

set_option maxRecDepth 100000 in
set_option maxHeartbeats 4000000 in
theorem k_O_isNode {post : Int32 → List va_E → Prop} {n : Nat} (hn : n < 5) (k : post (nI 1) M) : pv_M l D ty base b 0 0 0 (fun _ => True) y_O_isNode c_O_isNode 1 (some .boolean) [.int (nI n)] (M) (pv_QI D ty base b post) := by
  refine pv_enter [some (.int (nI n))] (by decide) (fun _ => rfl) (fun _ => Nat.le_of_ble_eq_true rfl) ?_
  refine pv_iload_n d_O_isNode_0 rfl rfl ?_
  refine pv_if_lt 13 (by decide) d_O_isNode_1 (fun h1 => ?_) (fun h1 => ?_)
  · refine pv_iconst d_O_isNode_13 (nI 0) (by decide) ?_
    refine pv_zret d_O_isNode_14 (by first | rfl | decide) ?_
    first | exact k | exact absurd h1 (nI_pos (by omega)) | omega
  · refine pv_iload_n d_O_isNode_4 rfl rfl ?_
    refine pv_iconst d_O_isNode_5 (nI 5) (by decide) ?_
    first | refine pv_icmpN_ge 13 (by decide) d_O_isNode_6 (by first | assumption | omega) (by first | assumption | omega) (fun h6 => ?_) (fun h6 => ?_) | refine pv_icmp_ge 13 (by decide) d_O_isNode_6 (fun h6 => ?_) (fun h6 => ?_)
    · refine pv_iconst d_O_isNode_13 (nI 0) (by decide) ?_
      refine pv_zret d_O_isNode_14 (by first | rfl | decide) ?_
      first | exact k | exact absurd h1 (nI_pos (by omega)) | omega
    · refine pv_iconst d_O_isNode_9 (nI 1) (by decide) ?_
      refine pv_goto 14 (by decide) d_O_isNode_10 ?_
      refine pv_zret d_O_isNode_14 (by first | rfl | decide) ?_
      first | exact k | exact absurd h1 (nI_pos (by omega)) | omega

set_option maxRecDepth 100000 in
set_option maxHeartbeats 4000000 in
theorem k_O_isIn {post : Int32 → List va_E → Prop} {m n : Nat} (hm : m < 2 ^ 31) (hn : n < 31) (k : post (nI (b2 (m.testBit n))) M) : pv_M l D ty base b 0 0 0 (fun _ => True) y_O_isIn c_O_isIn 2 (some .boolean) [.int (nI m), .int (nI n)] (M) (pv_QI D ty base b post) := by
  refine pv_enter [some (.int (nI m)), some (.int (nI n))] (by decide) (fun _ => rfl) (fun _ => Nat.le_of_ble_eq_true rfl) ?_
  have hbd : m &&& 2 ^ n < 2 ^ 31 := Nat.lt_of_le_of_lt Nat.and_le_left hm
  refine pv_iload_n d_O_isIn_0 rfl rfl ?_
  refine pv_iconst d_O_isIn_1 (nI 1) (by decide) ?_
  refine pv_iload_n d_O_isIn_2 rfl rfl ?_
  first | refine pv_ishl1 d_O_isIn_3 (by omega) ?_ | refine pv_ishl d_O_isIn_3 ?_
  first | refine pv_iandN d_O_isIn_4 ?_ | refine pv_iand d_O_isIn_4 ?_
  first | refine pv_ifN_eq 12 (by decide) d_O_isIn_5 (by first | assumption | omega) (fun h5 => ?_) (fun h5 => ?_) | refine pv_if_eq 12 (by decide) d_O_isIn_5 (fun h5 => ?_) (fun h5 => ?_)
  · refine pv_iconst d_O_isIn_12 (nI 0) (by decide) ?_
    refine pv_zret d_O_isIn_13 (by first | rfl | decide) ?_
    first | (have h9 := tb_and.mp h5; simpa [b2, h9] using k) | (have h9 := mt tb_and.mpr h5; simp only [Bool.not_eq_false] at h9; simpa [b2, h9] using k)
  · refine pv_iconst d_O_isIn_8 (nI 1) (by decide) ?_
    refine pv_goto 13 (by decide) d_O_isIn_9 ?_
    refine pv_zret d_O_isIn_13 (by first | rfl | decide) ?_
    first | (have h9 := tb_and.mp h5; simpa [b2, h9] using k) | (have h9 := mt tb_and.mpr h5; simp only [Bool.not_eq_false] at h9; simpa [b2, h9] using k)

set_option maxRecDepth 100000 in
set_option maxHeartbeats 4000000 in
theorem k_R_isTokenLost {post : Int32 → List va_E → Prop} {r : Nat} (hr : r < 6) (hb : bX σ) (k : post (nI (b2 (decide (σ 12 r = 0)))) (memX σ ++ ρ)) : pv_M l D ty base b 0 0 0 (fun _ => True) y_R_isTokenLost c_R_isTokenLost 1 (some .boolean) [.ref (pR r + 1)] (memX σ ++ ρ) (pv_QI D ty base b post) := by
  refine pv_enter [some (.ref (pR r + 1))] (by decide) (fun _ => rfl) (fun _ => Nat.le_of_ble_eq_true rfl) ?_
  have hb12 : σ 12 r < 6 := hb 12 r
  refine pv_aload_n d_R_isTokenLost_0 rfl rfl ?_
  refine gR_tokenAt d_R_isTokenLost_1 ff_R_18 (by first | assumption | omega) ?_
  refine pv_iconst d_R_isTokenLost_4 (-1) (by decide) ?_
  first | refine pv_icmpN_ne 12 (by decide) d_R_isTokenLost_5 (by first | assumption | omega) (by first | assumption | omega) (fun h5 => ?_) (fun h5 => ?_) | refine pv_icmp_ne 12 (by decide) d_R_isTokenLost_5 (fun h5 => ?_) (fun h5 => ?_)
  · refine pv_iconst d_R_isTokenLost_12 (nI 0) (by decide) ?_
    refine pv_zret d_R_isTokenLost_13 (by first | rfl | decide) ?_
    first | (have h9 := (tk_m1 (by omega)).mp h5; simpa [b2, h9] using k) | (have h9 := mt (tk_m1 (by omega)).mpr h5; simpa [b2, h9] using k)
  · refine pv_iconst d_R_isTokenLost_8 (nI 1) (by decide) ?_
    refine pv_goto 13 (by decide) d_R_isTokenLost_9 ?_
    refine pv_zret d_R_isTokenLost_13 (by first | rfl | decide) ?_
    first | (have h9 := (tk_m1 (by omega)).mp h5; simpa [b2, h9] using k) | (have h9 := mt (tk_m1 (by omega)).mpr h5; simpa [b2, h9] using k)

set_option maxRecDepth 100000 in
set_option maxHeartbeats 4000000 in
theorem k_R_isRequested {post : Int32 → List va_E → Prop} {r q : Nat} (hr : r < 6) (hb : bX σ) (hq : q < 49) (k : post (nI (b2 ((σ 14 r).testBit q))) (memX σ ++ ρ)) : pv_M l D ty base b 0 0 0 (fun _ => True) y_R_isRequested c_R_isRequested 2 (some .boolean) [.ref (pR r + 1), .int (nI q)] (memX σ ++ ρ) (pv_QI D ty base b post) := by
  refine pv_enter [some (.ref (pR r + 1)), some (.int (nI q))] (by decide) (fun _ => rfl) (fun _ => Nat.le_of_ble_eq_true rfl) ?_
  have hb2 : σ 14 r < 2 ^ 49 := hb 14 r
  refine pv_aload_n d_R_isRequested_0 rfl rfl ?_
  refine gR_requests d_R_isRequested_1 ff_R_35 (by first | assumption | omega) ?_
  refine pv_lconst d_R_isRequested_4 (lN 1) (by decide) ?_
  refine pv_iload_n d_R_isRequested_5 rfl rfl ?_
  refine pv_lshl1 d_R_isRequested_6 (by first | assumption | omega) ?_
  first | refine pv_landN d_R_isRequested_7 ?_ | refine pv_landC d_R_isRequested_7 ?_
  refine pv_lconst d_R_isRequested_8 (lN 0) (by decide) ?_
  refine pv_lcmp_eq 17 d_R_isRequested_9 d_R_isRequested_10 (by decide) (by first | omega | exact Nat.lt_of_le_of_lt Nat.and_le_left (by first | assumption | omega) | exact Nat.lt_of_le_of_lt Nat.and_le_right (by decide)) (by first | omega | exact Nat.lt_of_le_of_lt Nat.and_le_left (by first | assumption | omega) | exact Nat.lt_of_le_of_lt Nat.and_le_right (by decide)) (fun h10 => ?_) (fun h10 => ?_)
  · refine pv_iconst d_R_isRequested_17 (nI 0) (by decide) ?_
    refine pv_zret d_R_isRequested_18 (by first | rfl | decide) ?_
    first | (have h9 := tb_and.mp h10; simpa [b2, h9] using k) | (have h9 := mt tb_and.mpr h10; simp only [Bool.not_eq_false] at h9; simpa [b2, h9] using k)
  · refine pv_iconst d_R_isRequested_13 (nI 1) (by decide) ?_
    refine pv_goto 18 (by decide) d_R_isRequested_14 ?_
    refine pv_zret d_R_isRequested_18 (by first | rfl | decide) ?_
    first | (have h9 := tb_and.mp h10; simpa [b2, h9] using k) | (have h9 := mt tb_and.mpr h10; simp only [Bool.not_eq_false] at h9; simpa [b2, h9] using k)

set_option maxRecDepth 100000 in
set_option maxHeartbeats 4000000 in
theorem k_R_takeOffRequest {post : List va_E → Prop} {r q : Nat} (hr : r < 6) (hq : q < 49) (k : post (memX (x_offreq σ r q) ++ ρ)) : pv_M l D ty base b 0 0 0 (fun _ => True) y_R_takeOffRequest c_R_takeOffRequest 2 none [.ref (pR r + 1), .int (nI q)] (memX σ ++ ρ) (pv_QV D ty base b post) := by
  refine pv_enter [some (.ref (pR r + 1)), some (.int (nI q))] (by decide) (fun _ => rfl) (fun _ => Nat.le_of_ble_eq_true rfl) ?_
  refine pv_aload_n d_R_takeOffRequest_0 rfl rfl ?_
  refine pv_dup d_R_takeOffRequest_1 rfl ?_
  refine gR_requests d_R_takeOffRequest_2 ff_R_35 (by first | assumption | omega) ?_
  refine pv_lconst d_R_takeOffRequest_5 (lN 1) (by decide) ?_
  refine pv_iload_n d_R_takeOffRequest_6 rfl rfl ?_
  refine pv_lshl1 d_R_takeOffRequest_7 (by first | assumption | omega) ?_
  refine pv_ldc2 d_R_takeOffRequest_8 wk_R_39 ?_
  refine pv_lxor d_R_takeOffRequest_11 ?_
  first | refine pv_landN d_R_takeOffRequest_12 ?_ | refine pv_landC d_R_takeOffRequest_12 ?_
  refine pR_requests d_R_takeOffRequest_13 ff_R_35 (by first | assumption | omega) ?_
  refine pv_vret d_R_takeOffRequest_16 ?_
  exact k

set_option maxRecDepth 100000 in
set_option maxHeartbeats 4000000 in
theorem k_R_memberAfter {post : Int32 → List va_E → Prop} {r n : Nat} (hr : r < 6) (hn : n < 5) (hb : bX σ) (k : post (nI (x_after (σ 11 r) n)) (memX σ ++ ρ)) : pv_M l D ty base b 1 0 0 (fun _ => True) y_R_memberAfter c_R_memberAfter 4 (some .int) [.ref (pR r + 1), .int (nI n)] (memX σ ++ ρ) (pv_QI D ty base b post) := by
  refine pv_enter [some (.ref (pR r + 1)), some (.int (nI n)), none, none] (by decide) (fun _ => rfl) (fun _ => Nat.le_of_ble_eq_true rfl) ?_
  have hb11 : σ 11 r < 32 := hb 11 r
  have loop : ∀ (j i : Nat) (z : Option Value), i + j = 4 → pv_n2 [some (.ref (pR r + 1)), some (.int (nI n)), some (.int (nI (i + 1))), z] 3 = true → post (nI (x_af (σ 11 r) n j i)) (memX σ ++ ρ) → pv_V l D ty base b c_R_memberAfter 4 y_R_memberAfter.cls (some .int) y_R_memberAfter.name (pv_rm 1 0 0) (fun _ => True) (pv_Qf base 0 0 (pv_QI D ty base b post)) 0 0 2 [some (.ref (pR r + 1)), some (.int (nI n)), some (.int (nI (i + 1))), z] [] (memX σ ++ ρ) := by
    intro j
    induction j with
    | zero =>
      intro i z hi hz k
      refine pv_iload_n d_R_memberAfter_2 rfl rfl ?_
      refine pv_iconst d_R_memberAfter_3 (nI 5) (by decide) ?_
      first | refine pv_icmpN_ge 32 (by decide) d_R_memberAfter_4 (by first | assumption | omega) (by first | assumption | omega) (fun h4 => ?_) (fun h4 => ?_) | refine pv_icmp_ge 32 (by decide) d_R_memberAfter_4 (fun h4 => ?_) (fun h4 => ?_)
      · refine pv_iload_n d_R_memberAfter_32 rfl rfl ?_
        refine pv_iret d_R_memberAfter_33 ?_
        exact k
      · omega
    | succ j ih =>
      intro i z hi hz k
      unfold x_af at k
      refine pv_iload_n d_R_memberAfter_2 rfl rfl ?_
      refine pv_iconst d_R_memberAfter_3 (nI 5) (by decide) ?_
      first | refine pv_icmpN_ge 32 (by decide) d_R_memberAfter_4 (by first | assumption | omega) (by first | assumption | omega) (fun h4 => ?_) (fun h4 => ?_) | refine pv_icmp_ge 32 (by decide) d_R_memberAfter_4 (fun h4 => ?_) (fun h4 => ?_)
      · omega
      · refine pv_iload_n d_R_memberAfter_7 rfl rfl ?_
        refine pv_iload_n d_R_memberAfter_8 rfl rfl ?_
        first | refine pv_iaddN d_R_memberAfter_9 ?_ | refine pv_iadd d_R_memberAfter_9 ?_
        refine pv_iconst d_R_memberAfter_10 (nI 5) (by decide) ?_
        refine pv_iremN d_R_memberAfter_11 (by omega) (by omega) (by omega) ?_
        refine pv_ist3 d_R_memberAfter_12 rfl (by decide) ?_
        refine pv_aload_n d_R_memberAfter_13 rfl rfl ?_
        refine gR_members d_R_memberAfter_14 ff_R_25 (by first | assumption | omega) ?_
        refine pv_iload_n d_R_memberAfter_17 rfl rfl ?_
        refine pv_callSN2I d_R_memberAfter_18 (k_O_isIn (by first | assumption | omega) (by first | assumption | omega) ?_) sb_O_isIn (List.mem_cons_self) ws_O_isIn (by decide) (by decide) (Nat.le_of_ble_eq_true rfl) (by decide) (by decide)
        have hbb := b2_lt ((σ 11 r).testBit ((n + (i + 1)) % 5))
        first | refine pv_ifN_eq 26 (by decide) d_R_memberAfter_21 (by first | assumption | omega) (fun h21 => ?_) (fun h21 => ?_) | refine pv_if_eq 26 (by decide) d_R_memberAfter_21 (fun h21 => ?_) (fun h21 => ?_)
        · refine pv_inc2 d_R_memberAfter_26 rfl (by decide) ?_
          refine pv_goto 2 (by decide) d_R_memberAfter_29 ?_
          have hc := b2_0.mp h21
          exact ih (i + 1) _ (by omega) rfl (by simpa [hc] using k)
        · refine pv_iload_n d_R_memberAfter_24 rfl rfl ?_
          refine pv_iret d_R_memberAfter_25 ?_
          have hc := b2_n0.mp h21
          simpa [hc] using k
  refine pv_iconst d_R_memberAfter_0 (nI 1) (by decide) ?_
  refine pv_ist2 d_R_memberAfter_1 rfl (by decide) ?_
  exact loop 4 0 _ rfl rfl k

theorem x_af_lt {mem n : Nat} (hn : n < 5) : ∀ j i, x_af mem n j i < 5
  | 0, _ => hn
  | j + 1, i => by
    unfold x_af
    split
    · omega
    · exact x_af_lt hn j (i + 1)
theorem bX_zero {r : Nat} {σ : Nat → Nat → Nat} (h : bX σ) (hr : r < 6) : ∀ k, bX (x_zero r σ k)
  | 0 => h
  | k + 1 => bX_sU (bX_zero h hr k) (by rw [Bx_k hr]; decide)
theorem bX_ring {r num mem : Nat} {σ : Nat → Nat → Nat} (h : bX σ) (hr : r < 6) (h1 : num < 600) (h2 : mem < 32) : bX (x_ring σ r num mem) :=
  bX_zero (bX_sU (bX_sU (bX_sU (bX_sU (bX_sU h h1) h2) (show x_after mem 4 + 1 < 6 from Nat.succ_lt_succ (x_af_lt (by decide) 4 0))) (by decide)) (by decide)) hr 5
theorem bX_offreq {σ : Nat → Nat → Nat} {r q : Nat} (h : bX σ) : bX (x_offreq σ r q) := bX_sU h (Nat.xor_lt_two_pow (h 14 r) (Nat.lt_of_le_of_lt Nat.and_le_left (h 14 r)))
set_option maxRecDepth 100000 in
set_option maxHeartbeats 4000000 in
theorem k_R_form {post : List va_E → Prop} {r num mem : Nat} (hr : r < 6) (hb : bX σ) (h1 : num < 600) (h2 : mem < 32) (k : post (memX (x_ring σ r num mem) ++ ρ)) : pv_M l D ty base b 2 0 0 (fun _ => True) y_R_form c_R_form 4 none [.ref (pR r + 1), .int (nI num), .int (nI mem)] (memX σ ++ ρ) (pv_QV D ty base b post) := by
  refine pv_enter [some (.ref (pR r + 1)), some (.int (nI num)), some (.int (nI mem)), none] (by decide) (fun _ => rfl) (fun _ => Nat.le_of_ble_eq_true rfl) ?_
  have loop : ∀ (j i : Nat), i + j = 5 → pv_V l D ty base b c_R_form 4 y_R_form.cls none y_R_form.name (pv_rm 2 0 0) (fun _ => True) (pv_Qf base 0 0 (pv_QV D ty base b post)) 0 0 31 [some (.ref (pR r + 1)), some (.int (nI num)), some (.int (nI mem)), some (.int (nI i))] [] (memX (x_zero r (sU (sU (sU (sU (sU σ 10 r num) 11 r mem) 12 r (x_after mem 4 + 1)) 13 r 0) 14 r 0) i) ++ ρ) := by
    intro j
    induction j with
    | zero =>
      intro i hi
      refine pv_iload_n d_R_form_31 rfl rfl ?_
      refine pv_iconst d_R_form_32 (nI 5) (by decide) ?_
      first | refine pv_icmpN_ge 49 (by decide) d_R_form_33 (by first | assumption | omega) (by first | assumption | omega) (fun h33 => ?_) (fun h33 => ?_) | refine pv_icmp_ge 49 (by decide) d_R_form_33 (fun h33 => ?_) (fun h33 => ?_)
      · refine pv_vret d_R_form_49 ?_
        obtain rfl : i = 5 := by omega
        exact k
      · omega
    | succ j ih =>
      intro i hi
      refine pv_iload_n d_R_form_31 rfl rfl ?_
      refine pv_iconst d_R_form_32 (nI 5) (by decide) ?_
      first | refine pv_icmpN_ge 49 (by decide) d_R_form_33 (by first | assumption | omega) (by first | assumption | omega) (fun h33 => ?_) (fun h33 => ?_) | refine pv_icmp_ge 49 (by decide) d_R_form_33 (fun h33 => ?_) (fun h33 => ?_)
      · omega
      · refine pv_aload_n d_R_form_36 rfl rfl ?_
        refine gR_marks d_R_form_37 ff_R_15 (by first | assumption | omega) ?_
        refine pv_iload_n d_R_form_40 rfl rfl ?_
        refine pv_iconst d_R_form_41 (nI 0) (by decide) ?_
        refine s_marks d_R_form_42 (by first | assumption | omega) (by first | assumption | omega) ?_
        refine pv_inc3 d_R_form_43 rfl (by decide) ?_
        refine pv_goto 31 (by decide) d_R_form_46 ?_
        exact ih (i + 1) (by omega)
  refine pv_aload_n d_R_form_0 rfl rfl ?_
  refine pv_iload_n d_R_form_1 rfl rfl ?_
  refine pR_number d_R_form_2 ff_R_22 (by first | assumption | omega) ?_
  refine pv_aload_n d_R_form_5 rfl rfl ?_
  refine pv_iload_n d_R_form_6 rfl rfl ?_
  refine pR_members d_R_form_7 ff_R_25 (by first | assumption | omega) ?_
  refine pv_aload_n d_R_form_10 rfl rfl ?_
  refine pv_aload_n d_R_form_11 rfl rfl ?_
  refine pv_iconst d_R_form_12 (nI 4) (by decide) ?_
  refine pv_callV1I d_R_form_13 (k_R_memberAfter hr (show 4 < 5 by decide) (bX_sU (bX_sU hb h1) h2) ?_) sb_R_memberAfter wm_R_28 (gx_R (by first | assumption | omega)) rfl ⟨wi_R_memberAfter, we_R_memberAfter⟩ (by decide) (by decide) (Nat.le_of_ble_eq_true rfl) (by decide) (by decide)
  rw [sU_same]
  refine pR_tokenAtI d_R_form_16 ff_R_18 (by first | assumption | omega) ?_
  refine pv_aload_n d_R_form_19 rfl rfl ?_
  refine pv_iconst d_R_form_20 (nI 0) (by decide) ?_
  refine pR_last d_R_form_21 ff_R_32 (by first | assumption | omega) ?_
  refine pv_aload_n d_R_form_24 rfl rfl ?_
  refine pv_lconst d_R_form_25 (lN 0) (by decide) ?_
  refine pR_requests d_R_form_26 ff_R_35 (by first | assumption | omega) ?_
  refine pv_iconst d_R_form_29 (nI 0) (by decide) ?_
  refine pv_ist3 d_R_form_30 rfl (by decide) ?_
  exact loop 5 0 rfl

theorem x_mk_s {r n k : Nat} {σ : Nat → Nat → Nat} : x_mk r n σ (k + 1) = if (x_mk r n σ k 2 n).testBit (k + 1) = true then x_mk r n σ k else sU (x_mk r n σ k) 14 r (x_mk r n σ k 14 r ||| 2 ^ (k + 1)) := rfl
theorem x_mk_ne {r n f j : Nat} {σ : Nat → Nat → Nat} (h : f ≠ 14) : ∀ k, x_mk r n σ k f j = σ f j
  | 0 => rfl
  | k + 1 => by
    rw [x_mk_s]
    split
    · exact x_mk_ne h k
    · rw [sU_nef h]
      exact x_mk_ne h k
theorem bX_mk {r n : Nat} {σ : Nat → Nat → Nat} (h : bX σ) : ∀ k, k < 49 → bX (x_mk r n σ k)
  | 0, _ => h
  | k + 1, hk => by
    show bX (if _ then _ else _)
    split
    · exact bX_mk h k (by omega)
    · exact bX_sU (bX_mk h k (by omega)) (or_pow_lt (bX_mk h k (by omega) 14 r) hk)
set_option maxRecDepth 100000 in
set_option maxHeartbeats 4000000 in
theorem k_R_markAndRequest {post : List va_E → Prop} {r n : Nat} (hr : r < 6) (hn : n < 5) (hb : bX σ) (k : post (memX (x_mark σ r n) ++ ρ)) : pv_M l D ty base b 2 0 0 (fun _ => True) y_R_markAndRequest c_R_markAndRequest 3 none [.ref (pR r + 1), .ref (pN n + 1)] (memX σ ++ ρ) (pv_QV D ty base b post) := by
  refine pv_enter [some (.ref (pR r + 1)), some (.ref (pN n + 1)), none] (by decide) (fun _ => rfl) (fun _ => Nat.le_of_ble_eq_true rfl) ?_
  have hb13 : σ 13 r < 49 := hb 13 r
  have hb1 : bX (sU σ (50 + r) n (x_reach σ n)) := bX_sU hb (by rw [Bx_k hr]; have := x_reach_le (σ := σ) (n := n); omega)
  have x13 : ∀ i, x_mk r n (sU σ (50 + r) n (x_reach σ n)) i 13 r = σ 13 r := fun i => by rw [x_mk_ne (by decide), sU_nef (by omega)]
  have loop : ∀ (j i : Nat), i + j = σ 13 r → pv_V l D ty base b c_R_markAndRequest 3 y_R_markAndRequest.cls none y_R_markAndRequest.name (pv_rm 2 0 0) (fun _ => True) (pv_Qf base 0 0 (pv_QV D ty base b post)) 0 0 15 [some (.ref (pR r + 1)), some (.ref (pN n + 1)), some (.int (nI (i + 1)))] [] (memX (x_mk r n (sU σ (50 + r) n (x_reach σ n)) i) ++ ρ) := by
    intro j
    induction j with
    | zero =>
      intro i hi
      refine pv_iload_n d_R_markAndRequest_15 rfl rfl ?_
      refine pv_aload_n d_R_markAndRequest_16 rfl rfl ?_
      refine gR_last d_R_markAndRequest_17 ff_R_32 (by first | assumption | omega) ?_
      rw [x13]
      first | refine pv_icmpN_gt 49 (by decide) d_R_markAndRequest_20 (by first | assumption | omega) (by first | assumption | omega) (fun h20 => ?_) (fun h20 => ?_) | refine pv_icmp_gt 49 (by decide) d_R_markAndRequest_20 (fun h20 => ?_) (fun h20 => ?_)
      · refine pv_vret d_R_markAndRequest_49 ?_
        obtain rfl : i = σ 13 r := by omega
        exact k
      · omega
    | succ j ih =>
      intro i hi
      refine pv_iload_n d_R_markAndRequest_15 rfl rfl ?_
      refine pv_aload_n d_R_markAndRequest_16 rfl rfl ?_
      refine gR_last d_R_markAndRequest_17 ff_R_32 (by first | assumption | omega) ?_
      rw [x13]
      first | refine pv_icmpN_gt 49 (by decide) d_R_markAndRequest_20 (by first | assumption | omega) (by first | assumption | omega) (fun h20 => ?_) (fun h20 => ?_) | refine pv_icmp_gt 49 (by decide) d_R_markAndRequest_20 (fun h20 => ?_) (fun h20 => ?_)
      · omega
      · refine pv_aload_n d_R_markAndRequest_23 rfl rfl ?_
        refine pv_iload_n d_R_markAndRequest_24 rfl rfl ?_
        refine pv_callV1I d_R_markAndRequest_25 (k_N_holds (by first | assumption | omega) (bX_mk hb1 i (by omega)) (by first | assumption | omega) ?_) sb_N_holds wm_R_48 (gx_N (by first | assumption | omega)) rfl ⟨wi_N_holds, we_N_holds⟩ (by decide) (by decide) (Nat.le_of_ble_eq_true rfl) (by decide) (by decide)
        have hbb := b2_lt ((x_mk r n (sU σ (50 + r) n (x_reach σ n)) i 2 n).testBit (i + 1))
        first | refine pv_ifN_ne 43 (by decide) d_R_markAndRequest_28 (by first | assumption | omega) (fun h28 => ?_) (fun h28 => ?_) | refine pv_if_ne 43 (by decide) d_R_markAndRequest_28 (fun h28 => ?_) (fun h28 => ?_)
        · refine pv_inc2 d_R_markAndRequest_43 rfl (by decide) ?_
          refine pv_goto 15 (by decide) d_R_markAndRequest_46 ?_
          refine Eq.mp (congrArg (fun q => pv_V l D ty base b c_R_markAndRequest 3 y_R_markAndRequest.cls none y_R_markAndRequest.name (pv_rm 2 0 0) (fun _ => True) (pv_Qf base 0 0 (pv_QV D ty base b post)) 0 0 15 _ _ (memX q ++ ρ)) ?_) (ih (i + 1) (by omega))
          rw [x_mk_s]
          first | rw [if_pos (b2_n0.mp h28)] | rw [if_neg (by rw [b2_0.mp h28]; decide)]
        · refine pv_aload_n d_R_markAndRequest_31 rfl rfl ?_
          refine pv_dup d_R_markAndRequest_32 rfl ?_
          refine gR_requests d_R_markAndRequest_33 ff_R_35 (by first | assumption | omega) ?_
          refine pv_lconst d_R_markAndRequest_36 (lN 1) (by decide) ?_
          refine pv_iload_n d_R_markAndRequest_37 rfl rfl ?_
          refine pv_lshl1 d_R_markAndRequest_38 (by first | assumption | omega) ?_
          refine pv_lorN d_R_markAndRequest_39 ?_
          refine pR_requests d_R_markAndRequest_40 ff_R_35 (by first | assumption | omega) ?_
          refine pv_inc2 d_R_markAndRequest_43 rfl (by decide) ?_
          refine pv_goto 15 (by decide) d_R_markAndRequest_46 ?_
          refine Eq.mp (congrArg (fun q => pv_V l D ty base b c_R_markAndRequest 3 y_R_markAndRequest.cls none y_R_markAndRequest.name (pv_rm 2 0 0) (fun _ => True) (pv_Qf base 0 0 (pv_QV D ty base b post)) 0 0 15 _ _ (memX q ++ ρ)) ?_) (ih (i + 1) (by omega))
          rw [x_mk_s]
          first | rw [if_pos (b2_n0.mp h28)] | rw [if_neg (by rw [b2_0.mp h28]; decide)]
  refine pv_aload_n d_R_markAndRequest_0 rfl rfl ?_
  refine gR_marks d_R_markAndRequest_1 ff_R_15 (by first | assumption | omega) ?_
  refine pv_aload_n d_R_markAndRequest_4 rfl rfl ?_
  refine gN_number d_R_markAndRequest_5 ff_R_41 (by first | assumption | omega) ?_
  refine pv_aload_n d_R_markAndRequest_8 rfl rfl ?_
  refine pv_callV0I d_R_markAndRequest_9 (k_N_heldWithoutGap hn hb ?_) sb_N_heldWithoutGap wm_R_44 (gx_N (by first | assumption | omega)) rfl ⟨wi_N_heldWithoutGap, we_N_heldWithoutGap⟩ (by decide) (by decide) (Nat.le_of_ble_eq_true rfl) (by decide) (by decide)
  refine s_marks d_R_markAndRequest_12 (by first | assumption | omega) (by first | assumption | omega) ?_
  refine pv_iconst d_R_markAndRequest_13 (nI 1) (by decide) ?_
  refine pv_ist2 d_R_markAndRequest_14 rfl (by decide) ?_
  exact loop (σ 13 r) 0 (by omega)

theorem x_ls_le {σ : Nat → Nat → Nat} {r : Nat} : ∀ k, x_ls σ r k ≤ 48
  | 0 => Nat.le_refl _
  | k + 1 => by
    show (if _ then _ else _) ≤ 48
    have := x_ls_le (σ := σ) (r := r) k
    split
    · exact Nat.le_trans (Nat.min_le_left _ _) this
    · exact this
theorem x_ls_s {r k : Nat} {σ : Nat → Nat → Nat} : x_ls σ r (k + 1) = if (σ 11 r).testBit k = true then min (x_ls σ r k) (σ (50 + r) k) else x_ls σ r k := rfl
set_option maxRecDepth 100000 in
set_option maxHeartbeats 4000000 in
theorem k_R_leastMark {post : Int32 → List va_E → Prop} {r : Nat} (hr : r < 6) (hb : bX σ) (k : post (nI (x_least σ r)) (memX σ ++ ρ)) : pv_M l D ty base b 1 0 0 (fun _ => True) y_R_leastMark c_R_leastMark 3 (some .int) [.ref (pR r + 1)] (memX σ ++ ρ) (pv_QI D ty base b post) := by
  refine pv_enter [some (.ref (pR r + 1)), none, none] (by decide) (fun _ => rfl) (fun _ => Nat.le_of_ble_eq_true rfl) ?_
  have hb11 : σ 11 r < 32 := hb 11 r
  have loop : ∀ (j i : Nat), i + j = 5 → pv_V l D ty base b c_R_leastMark 3 y_R_leastMark.cls (some .int) y_R_leastMark.name (pv_rm 1 0 0) (fun _ => True) (pv_Qf base 0 0 (pv_QI D ty base b post)) 0 0 5 [some (.ref (pR r + 1)), some (.int (nI (x_ls σ r i))), some (.int (nI i))] [] (memX σ ++ ρ) := by
    intro j
    induction j with
    | zero =>
      intro i hi
      refine pv_iload_n d_R_leastMark_5 rfl rfl ?_
      refine pv_iconst d_R_leastMark_6 (nI 5) (by decide) ?_
      first | refine pv_icmpN_ge 38 (by decide) d_R_leastMark_7 (by first | assumption | omega) (by first | assumption | omega) (fun h7 => ?_) (fun h7 => ?_) | refine pv_icmp_ge 38 (by decide) d_R_leastMark_7 (fun h7 => ?_) (fun h7 => ?_)
      · refine pv_iload_n d_R_leastMark_38 rfl rfl ?_
        refine pv_iret d_R_leastMark_39 ?_
        obtain rfl : i = 5 := by omega
        exact k
      · omega
    | succ j ih =>
      intro i hi
      refine pv_iload_n d_R_leastMark_5 rfl rfl ?_
      refine pv_iconst d_R_leastMark_6 (nI 5) (by decide) ?_
      first | refine pv_icmpN_ge 38 (by decide) d_R_leastMark_7 (by first | assumption | omega) (by first | assumption | omega) (fun h7 => ?_) (fun h7 => ?_) | refine pv_icmp_ge 38 (by decide) d_R_leastMark_7 (fun h7 => ?_) (fun h7 => ?_)
      · omega
      · refine pv_aload_n d_R_leastMark_10 rfl rfl ?_
        refine gR_members d_R_leastMark_11 ff_R_25 (by first | assumption | omega) ?_
        refine pv_iload_n d_R_leastMark_14 rfl rfl ?_
        refine pv_callSN2I d_R_leastMark_15 (k_O_isIn (by first | assumption | omega) (by first | assumption | omega) ?_) sb_O_isIn (List.mem_cons_self) ws_O_isIn (by decide) (by decide) (Nat.le_of_ble_eq_true rfl) (by decide) (by decide)
        have hbb := b2_lt ((σ 11 r).testBit i)
        have hls := x_ls_le (σ := σ) (r := r) i
        have hmk : σ (50 + r) i < 2 ^ 31 := Nat.lt_of_lt_of_le (hb (50 + r) i) (by rw [Bx_k hr]; decide)
        first | refine pv_ifN_eq 32 (by decide) d_R_leastMark_18 (by first | assumption | omega) (fun h18 => ?_) (fun h18 => ?_) | refine pv_if_eq 32 (by decide) d_R_leastMark_18 (fun h18 => ?_) (fun h18 => ?_)
        · refine pv_inc2 d_R_leastMark_32 rfl (by decide) ?_
          refine pv_goto 5 (by decide) d_R_leastMark_35 ?_
          refine Eq.mp (congrArg (fun q => pv_V l D ty base b c_R_leastMark 3 y_R_leastMark.cls (some .int) y_R_leastMark.name (pv_rm 1 0 0) (fun _ => True) (pv_Qf base 0 0 (pv_QI D ty base b post)) 0 0 5 [some (.ref (pR r + 1)), some (.int (nI q)), some (.int (nI (i + 1)))] [] (memX σ ++ ρ)) ?_) (ih (i + 1) (by omega))
          rw [x_ls_s]
          first | rw [if_pos (b2_n0.mp h18)] | rw [if_neg (by rw [b2_0.mp h18]; decide)]
        · refine pv_iload_n d_R_leastMark_21 rfl rfl ?_
          refine pv_aload_n d_R_leastMark_22 rfl rfl ?_
          refine gR_marks d_R_leastMark_23 ff_R_15 (by first | assumption | omega) ?_
          refine pv_iload_n d_R_leastMark_26 rfl rfl ?_
          refine l_marks d_R_leastMark_27 (by first | assumption | omega) (by first | assumption | omega) ?_
          refine pv_mminN d_R_leastMark_28 wm_R_56 ws_min wn_Math wc_min (by decide) (by decide) (Nat.le_of_ble_eq_true rfl) (by decide) (by decide) (by first | assumption | omega) (by first | assumption | omega) ?_
          refine pv_ist1 d_R_leastMark_31 rfl (by decide) ?_
          refine pv_inc2 d_R_leastMark_32 rfl (by decide) ?_
          refine pv_goto 5 (by decide) d_R_leastMark_35 ?_
          refine Eq.mp (congrArg (fun q => pv_V l D ty base b c_R_leastMark 3 y_R_leastMark.cls (some .int) y_R_leastMark.name (pv_rm 1 0 0) (fun _ => True) (pv_Qf base 0 0 (pv_QI D ty base b post)) 0 0 5 [some (.ref (pR r + 1)), some (.int (nI q)), some (.int (nI (i + 1)))] [] (memX σ ++ ρ)) ?_) (ih (i + 1) (by omega))
          rw [x_ls_s]
          first | rw [if_pos (b2_n0.mp h18)] | rw [if_neg (by rw [b2_0.mp h18]; decide)]
  refine pv_bipush d_R_leastMark_0 (nI 48) (by decide) ?_
  refine pv_ist1 d_R_leastMark_2 rfl (by decide) ?_
  refine pv_iconst d_R_leastMark_3 (nI 0) (by decide) ?_
  refine pv_ist2 d_R_leastMark_4 rfl (by decide) ?_
  exact loop 5 0 rfl

set_option maxRecDepth 100000 in
set_option maxHeartbeats 4000000 in
theorem k_M_take {post : Int32 → List va_E → Prop} {n s : Nat} (h : σ 15 0 < 48) (hs : s ≤ 1) (k : post (nI (σ 15 0 + 1)) (memX (x_take σ n s) ++ ρ)) : pv_M l D ty base b 0 0 0 (fun _ => True) y_M_take c_M_take 3 (some .int) [.ref (36 + 1), .int (nI n), .int (nI s)] (memX σ ++ ρ) (pv_QI D ty base b post) := by
  refine pv_enter [some (.ref (36 + 1)), some (.int (nI n)), some (.int (nI s))] (by decide) (fun _ => rfl) (fun _ => Nat.le_of_ble_eq_true rfl) ?_
  refine pv_aload_n d_M_take_0 rfl rfl ?_
  refine pv_dup d_M_take_1 rfl ?_
  refine gM_taken d_M_take_2 ff_M_22 ?_
  refine pv_iconst d_M_take_5 (nI 1) (by decide) ?_
  first | refine pv_iaddN d_M_take_6 ?_ | refine pv_iadd d_M_take_6 ?_
  refine pM_taken d_M_take_7 ff_M_22 ?_
  refine pv_aload_n d_M_take_10 rfl rfl ?_
  refine gM_origins d_M_take_11 ff_M_9 ?_
  refine pv_aload_n d_M_take_14 rfl rfl ?_
  refine gM_taken d_M_take_15 ff_M_22 ?_
  rw [sU_same]
  refine pv_iload_n d_M_take_18 rfl rfl ?_
  refine s_origins d_M_take_19 (by first | assumption | omega) ?_
  refine pv_aload_n d_M_take_20 rfl rfl ?_
  refine gM_safe d_M_take_21 ff_M_15 ?_
  refine pv_aload_n d_M_take_24 rfl rfl ?_
  refine gM_taken d_M_take_25 ff_M_22 ?_
  rw [sU_nef (by decide), sU_same]
  refine pv_iload_n d_M_take_28 rfl rfl ?_
  refine s_safe d_M_take_29 (by first | assumption | omega) (nar_b (by omega)) ?_
  refine pv_aload_n d_M_take_30 rfl rfl ?_
  refine gM_taken d_M_take_31 ff_M_22 ?_
  rw [sU_nef (by decide), sU_nef (by decide), sU_same]
  refine pv_iret d_M_take_34 ?_
  exact k

set_option maxRecDepth 100000 in
set_option maxHeartbeats 4000000 in
theorem k_O_hearEachOther {post : Int32 → List va_E → Prop} {n k1 : Nat} (hn : n < 5) (hk : k1 < 5) (hb : bX σ) (k : post (nI (b2 (x_hear σ n k1))) (memX σ ++ ρ)) : pv_M l D ty base b 1 0 0 (fun _ => True) y_O_hearEachOther c_O_hearEachOther 2 (some .boolean) [.ref (pN n + 1), .ref (pN k1 + 1)] (memX σ ++ ρ) (pv_QI D ty base b post) := by
  refine pv_enter [some (.ref (pN n + 1)), some (.ref (pN k1 + 1))] (by decide) (fun _ => rfl) (fun _ => Nat.le_of_ble_eq_true rfl) ?_
  have ha1 : σ 5 n < 3 := hb 5 n
  have ha2 : σ 5 k1 < 3 := hb 5 k1
  refine pv_aload_n d_O_hearEachOther_0 rfl rfl ?_
  refine pv_callV0I d_O_hearEachOther_1 (k_N_isUp (by first | assumption | omega) ?_) sb_N_isUp wm_O_43 (gx_N (by first | assumption | omega)) rfl ⟨wi_N_isUp, we_N_isUp⟩ (by decide) (by decide) (Nat.le_of_ble_eq_true rfl) (by decide) (by decide)
  have hbb := b2_lt (decide (σ 1 n ≠ 0))
  first | refine pv_ifN_eq 33 (by decide) d_O_hearEachOther_4 (by first | assumption | omega) (fun h4 => ?_) (fun h4 => ?_) | refine pv_if_eq 33 (by decide) d_O_hearEachOther_4 (fun h4 => ?_) (fun h4 => ?_)
  · refine pv_iconst d_O_hearEachOther_33 (nI 0) (by decide) ?_
    refine pv_zret d_O_hearEachOther_34 (by first | rfl | decide) ?_
    first | (have hx : x_hear σ n k1 = false := decide_eq_false (fun q => (of_decide_eq_false (b2_0.mp h4)) q.1); rw [hx] at k; exact k) | (have hx : x_hear σ n k1 = false := decide_eq_false (fun q => h15 (congrArg xp q.2.1)); rw [hx] at k; exact k) | (have hx : x_hear σ n k1 = false := decide_eq_false (fun q => h26 q.2.2); rw [hx] at k; exact k) | (have hx : x_hear σ n k1 = true := decide_eq_true ⟨of_decide_eq_true (b2_n0.mp h4), xp_inj h15, h26⟩; rw [hx] at k; exact k)
  · refine pv_aload_n d_O_hearEachOther_7 rfl rfl ?_
    refine gN_ring d_O_hearEachOther_8 ff_O_60 (by first | assumption | omega) ?_
    refine pv_aload_n d_O_hearEachOther_11 rfl rfl ?_
    refine gN_ring d_O_hearEachOther_12 ff_O_60 (by first | assumption | omega) ?_
    refine pv_acmp_ne 33 (by decide) d_O_hearEachOther_15 (fun h15 => ?_) (fun h15 => ?_)
    · refine pv_iconst d_O_hearEachOther_33 (nI 0) (by decide) ?_
      refine pv_zret d_O_hearEachOther_34 (by first | rfl | decide) ?_
      first | (have hx : x_hear σ n k1 = false := decide_eq_false (fun q => (of_decide_eq_false (b2_0.mp h4)) q.1); rw [hx] at k; exact k) | (have hx : x_hear σ n k1 = false := decide_eq_false (fun q => h15 (congrArg xp q.2.1)); rw [hx] at k; exact k) | (have hx : x_hear σ n k1 = false := decide_eq_false (fun q => h26 q.2.2); rw [hx] at k; exact k) | (have hx : x_hear σ n k1 = true := decide_eq_true ⟨of_decide_eq_true (b2_n0.mp h4), xp_inj h15, h26⟩; rw [hx] at k; exact k)
    · refine pv_aload_n d_O_hearEachOther_18 rfl rfl ?_
      refine gN_area d_O_hearEachOther_19 ff_O_96 (by first | assumption | omega) ?_
      refine pv_aload_n d_O_hearEachOther_22 rfl rfl ?_
      refine gN_area d_O_hearEachOther_23 ff_O_96 (by first | assumption | omega) ?_
      first | refine pv_icmpN_ne 33 (by decide) d_O_hearEachOther_26 (by first | assumption | omega) (by first | assumption | omega) (fun h26 => ?_) (fun h26 => ?_) | refine pv_icmp_ne 33 (by decide) d_O_hearEachOther_26 (fun h26 => ?_) (fun h26 => ?_)
      · refine pv_iconst d_O_hearEachOther_33 (nI 0) (by decide) ?_
        refine pv_zret d_O_hearEachOther_34 (by first | rfl | decide) ?_
        first | (have hx : x_hear σ n k1 = false := decide_eq_false (fun q => (of_decide_eq_false (b2_0.mp h4)) q.1); rw [hx] at k; exact k) | (have hx : x_hear σ n k1 = false := decide_eq_false (fun q => h15 (congrArg xp q.2.1)); rw [hx] at k; exact k) | (have hx : x_hear σ n k1 = false := decide_eq_false (fun q => h26 q.2.2); rw [hx] at k; exact k) | (have hx : x_hear σ n k1 = true := decide_eq_true ⟨of_decide_eq_true (b2_n0.mp h4), xp_inj h15, h26⟩; rw [hx] at k; exact k)
      · refine pv_iconst d_O_hearEachOther_29 (nI 1) (by decide) ?_
        refine pv_goto 34 (by decide) d_O_hearEachOther_30 ?_
        refine pv_zret d_O_hearEachOther_34 (by first | rfl | decide) ?_
        first | (have hx : x_hear σ n k1 = false := decide_eq_false (fun q => (of_decide_eq_false (b2_0.mp h4)) q.1); rw [hx] at k; exact k) | (have hx : x_hear σ n k1 = false := decide_eq_false (fun q => h15 (congrArg xp q.2.1)); rw [hx] at k; exact k) | (have hx : x_hear σ n k1 = false := decide_eq_false (fun q => h26 q.2.2); rw [hx] at k; exact k) | (have hx : x_hear σ n k1 = true := decide_eq_true ⟨of_decide_eq_true (b2_n0.mp h4), xp_inj h15, h26⟩; rw [hx] at k; exact k)

end RING
