/-! 20.ref: what the reference's private methods do -/
section REF
variable {l : Launch} {D : va_G} {ty : Nat → ClassId} {base b : Nat} {τ : Nat → Nat → Nat} {ρ ξ : List va_E}
variable {M : List va_E}
set_option maxRecDepth 100000 in
set_option maxHeartbeats 4000000 in
theorem k_Y_outside_no {post : Int32 → List va_E → Prop} {x : Int32} (h : x < 0 ∨ nI 4 < x) (k : post (nI 1) M) : pv_M l D ty base b 0 0 0 (fun _ => True) y_Y_outside c_Y_outside 1 (some .boolean) [.int x] (M) (pv_QI D ty base b post) := by
  refine pv_enter [some (.int x)] (by decide) (fun _ => rfl) (fun _ => Nat.le_of_ble_eq_true rfl) ?_
  refine pv_iload_n d_Y_outside_0 rfl rfl ?_
  refine pv_if_lt 9 (by decide) d_Y_outside_1 (fun h1 => ?_) (fun h1 => ?_)
  · refine pv_iconst d_Y_outside_9 (nI 1) (by decide) ?_
    refine pv_goto 14 (by decide) d_Y_outside_10 ?_
    refine pv_zret d_Y_outside_14 (by first | rfl | decide) ?_
    exact k
  · refine pv_iload_n d_Y_outside_4 rfl rfl ?_
    refine pv_iconst d_Y_outside_5 (nI 4) (by decide) ?_
    first | refine pv_icmpN_le 13 (by decide) d_Y_outside_6 (by first | assumption | omega) (by first | assumption | omega) (fun h6 => ?_) (fun h6 => ?_) | refine pv_icmp_le 13 (by decide) d_Y_outside_6 (fun h6 => ?_) (fun h6 => ?_)
    · refine pv_iconst d_Y_outside_13 (nI 0) (by decide) ?_
      refine pv_zret d_Y_outside_14 (by first | rfl | decide) ?_
      exact h.elim (fun q => absurd q h1) (fun q => absurd h6 (Int32.not_le.mpr q))
    · refine pv_iconst d_Y_outside_9 (nI 1) (by decide) ?_
      refine pv_goto 14 (by decide) d_Y_outside_10 ?_
      refine pv_zret d_Y_outside_14 (by first | rfl | decide) ?_
      exact k

set_option maxRecDepth 100000 in
set_option maxHeartbeats 4000000 in
theorem k_Y_outside {post : Int32 → List va_E → Prop} {n : Nat} (hn : n < 5) (k : post (nI 0) M) : pv_M l D ty base b 0 0 0 (fun _ => True) y_Y_outside c_Y_outside 1 (some .boolean) [.int (nI (n))] (M) (pv_QI D ty base b post) := by
  refine pv_enter [some (.int (nI (n)))] (by decide) (fun _ => rfl) (fun _ => Nat.le_of_ble_eq_true rfl) ?_
  refine pv_iload_n d_Y_outside_0 rfl rfl ?_
  refine pv_if_lt 9 (by decide) d_Y_outside_1 (fun h1 => ?_) (fun h1 => ?_)
  · refine pv_iconst d_Y_outside_9 (nI 1) (by decide) ?_
    refine pv_goto 14 (by decide) d_Y_outside_10 ?_
    refine pv_zret d_Y_outside_14 (by first | rfl | decide) ?_
    exact absurd h1 (nI_pos (by omega))
  · refine pv_iload_n d_Y_outside_4 rfl rfl ?_
    refine pv_iconst d_Y_outside_5 (nI 4) (by decide) ?_
    first | refine pv_icmpN_le 13 (by decide) d_Y_outside_6 (by first | assumption | omega) (by first | assumption | omega) (fun h6 => ?_) (fun h6 => ?_) | refine pv_icmp_le 13 (by decide) d_Y_outside_6 (fun h6 => ?_) (fun h6 => ?_)
    · refine pv_iconst d_Y_outside_13 (nI 0) (by decide) ?_
      refine pv_zret d_Y_outside_14 (by first | rfl | decide) ?_
      exact k
    · refine pv_iconst d_Y_outside_9 (nI 1) (by decide) ?_
      refine pv_goto 14 (by decide) d_Y_outside_10 ?_
      refine pv_zret d_Y_outside_14 (by first | rfl | decide) ?_
      omega

set_option maxRecDepth 100000 in
set_option maxHeartbeats 4000000 in
theorem k_Y_refuse_no {post : Int32 → List va_E → Prop} (hξ : ξ.length = 40) {x : Int32} (h : x < 0 ∨ nI 4 < x) (k : post (-3) (ξ ++ memY τ)) : pv_M l D ty base b 1 0 0 (fun _ => True) y_Y_refuse c_Y_refuse 2 (some .int) [.ref (40 + 1), .int x] (ξ ++ memY τ) (pv_QI D ty base b post) := by
  refine pv_enter [some (.ref (40 + 1)), some (.int x)] (by decide) (fun _ => rfl) (fun _ => Nat.le_of_ble_eq_true rfl) ?_
  refine pv_iload_n d_Y_refuse_0 rfl rfl ?_
  refine pv_callS1I d_Y_refuse_1 (k_Y_outside_no h ?_) sb_Y_outside wm_Y_76 ws_Y_outside (by decide) (by decide) (Nat.le_of_ble_eq_true rfl) (by decide) (by decide)
  first | refine pv_ifN_eq 12 (by decide) d_Y_refuse_4 (by first | assumption | omega) (fun h4 => ?_) (fun h4 => ?_) | refine pv_if_eq 12 (by decide) d_Y_refuse_4 (fun h4 => ?_) (fun h4 => ?_)
  · exact absurd h4 (by decide)
  · refine pv_bipush d_Y_refuse_7 (-3) (by decide) ?_
    refine pv_goto 27 (by decide) d_Y_refuse_9 ?_
    refine pv_iret d_Y_refuse_27 ?_
    exact k

set_option maxRecDepth 100000 in
set_option maxHeartbeats 4000000 in
theorem k_Y_refuse {post : Int32 → List va_E → Prop} (hξ : ξ.length = 40) {n : Nat} (hn : n < 5) (hb : bY τ) (k : post (if τ 0 n = 0 then -2 else nI 0) (ξ ++ memY τ)) : pv_M l D ty base b 1 0 0 (fun _ => True) y_Y_refuse c_Y_refuse 2 (some .int) [.ref (40 + 1), .int (nI (n))] (ξ ++ memY τ) (pv_QI D ty base b post) := by
  refine pv_enter [some (.ref (40 + 1)), some (.int (nI (n)))] (by decide) (fun _ => rfl) (fun _ => Nat.le_of_ble_eq_true rfl) ?_
  have h0 : τ 0 n < 2 := hb 0 n
  refine pv_iload_n d_Y_refuse_0 rfl rfl ?_
  refine pv_callS1I d_Y_refuse_1 (k_Y_outside hn ?_) sb_Y_outside wm_Y_76 ws_Y_outside (by decide) (by decide) (Nat.le_of_ble_eq_true rfl) (by decide) (by decide)
  first | refine pv_ifN_eq 12 (by decide) d_Y_refuse_4 (by first | assumption | omega) (fun h4 => ?_) (fun h4 => ?_) | refine pv_if_eq 12 (by decide) d_Y_refuse_4 (fun h4 => ?_) (fun h4 => ?_)
  · refine pv_aload_n d_Y_refuse_12 rfl rfl ?_
    refine gY_up d_Y_refuse_13 ff_Y_7 (by first | assumption | omega) ?_
    refine pv_iload_n d_Y_refuse_16 rfl rfl ?_
    refine ly_up d_Y_refuse_17 (by first | assumption | omega) (by first | assumption | omega) ?_
    first | refine pv_ifN_eq 25 (by decide) d_Y_refuse_18 (by first | assumption | omega) (fun h18 => ?_) (fun h18 => ?_) | refine pv_if_eq 25 (by decide) d_Y_refuse_18 (fun h18 => ?_) (fun h18 => ?_)
    · refine pv_bipush d_Y_refuse_25 (-2) (by decide) ?_
      refine pv_iret d_Y_refuse_27 ?_
      rw [if_pos h18] at k
      exact k
    · refine pv_iconst d_Y_refuse_21 (nI 0) (by decide) ?_
      refine pv_goto 27 (by decide) d_Y_refuse_22 ?_
      refine pv_iret d_Y_refuse_27 ?_
      rw [if_neg h18] at k
      exact k
  · refine pv_bipush d_Y_refuse_7 (-3) (by decide) ?_
    refine pv_goto 27 (by decide) d_Y_refuse_9 ?_
    refine pv_iret d_Y_refuse_27 ?_
    exact absurd rfl h4

set_option maxRecDepth 100000 in
set_option maxHeartbeats 4000000 in
theorem k_Y_hears {post : Int32 → List va_E → Prop} (hξ : ξ.length = 40) {a c : Nat} (ha : a < 5) (hc : c < 5) (hb : bY τ) (k : post (nI (b2 (y_hear τ a c))) (ξ ++ memY τ)) : pv_M l D ty base b 0 0 0 (fun _ => True) y_Y_hears c_Y_hears 3 (some .boolean) [.ref (40 + 1), .int (nI (a)), .int (nI (c))] (ξ ++ memY τ) (pv_QI D ty base b post) := by
  refine pv_enter [some (.ref (40 + 1)), some (.int (nI (a))), some (.int (nI (c)))] (by decide) (fun _ => rfl) (fun _ => Nat.le_of_ble_eq_true rfl) ?_
  have q0 : τ 0 a < 2 := hb 0 a
  have q1 : τ 0 c < 2 := hb 0 c
  have q2 : τ 1 a < 3 := hb 1 a
  have q3 : τ 1 c < 3 := hb 1 c
  have q4 : τ 2 a < 520 := hb 2 a
  have q5 : τ 2 c < 520 := hb 2 c
  refine pv_aload_n d_Y_hears_0 rfl rfl ?_
  refine gY_up d_Y_hears_1 ff_Y_7 (by first | assumption | omega) ?_
  refine pv_iload_n d_Y_hears_4 rfl rfl ?_
  refine ly_up d_Y_hears_5 (by first | assumption | omega) (by first | assumption | omega) ?_
  first | refine pv_ifN_eq 52 (by decide) d_Y_hears_6 (by first | assumption | omega) (fun h6 => ?_) (fun h6 => ?_) | refine pv_if_eq 52 (by decide) d_Y_hears_6 (fun h6 => ?_) (fun h6 => ?_)
  · refine pv_iconst d_Y_hears_52 (nI 0) (by decide) ?_
    refine pv_zret d_Y_hears_53 (by first | rfl | decide) ?_
    have hx : y_hear τ a c = false := decide_eq_false (fun z => z.1 h6)
    rw [hx] at k
    exact k
  · refine pv_aload_n d_Y_hears_9 rfl rfl ?_
    refine gY_up d_Y_hears_10 ff_Y_7 (by first | assumption | omega) ?_
    refine pv_iload_n d_Y_hears_13 rfl rfl ?_
    refine ly_up d_Y_hears_14 (by first | assumption | omega) (by first | assumption | omega) ?_
    first | refine pv_ifN_eq 52 (by decide) d_Y_hears_15 (by first | assumption | omega) (fun h15 => ?_) (fun h15 => ?_) | refine pv_if_eq 52 (by decide) d_Y_hears_15 (fun h15 => ?_) (fun h15 => ?_)
    · refine pv_iconst d_Y_hears_52 (nI 0) (by decide) ?_
      refine pv_zret d_Y_hears_53 (by first | rfl | decide) ?_
      have hx : y_hear τ a c = false := decide_eq_false (fun z => z.2.1 h15)
      rw [hx] at k
      exact k
    · refine pv_aload_n d_Y_hears_18 rfl rfl ?_
      refine gY_area d_Y_hears_19 ff_Y_13 (by first | assumption | omega) ?_
      refine pv_iload_n d_Y_hears_22 rfl rfl ?_
      refine ly_area d_Y_hears_23 (by first | assumption | omega) (by first | assumption | omega) ?_
      refine pv_aload_n d_Y_hears_24 rfl rfl ?_
      refine gY_area d_Y_hears_25 ff_Y_13 (by first | assumption | omega) ?_
      refine pv_iload_n d_Y_hears_28 rfl rfl ?_
      refine ly_area d_Y_hears_29 (by first | assumption | omega) (by first | assumption | omega) ?_
      first | refine pv_icmpN_ne 52 (by decide) d_Y_hears_30 (by first | assumption | omega) (by first | assumption | omega) (fun h30 => ?_) (fun h30 => ?_) | refine pv_icmp_ne 52 (by decide) d_Y_hears_30 (fun h30 => ?_) (fun h30 => ?_)
      · refine pv_iconst d_Y_hears_52 (nI 0) (by decide) ?_
        refine pv_zret d_Y_hears_53 (by first | rfl | decide) ?_
        have hx : y_hear τ a c = false := decide_eq_false (fun z => h30 z.2.2.1)
        rw [hx] at k
        exact k
      · refine pv_aload_n d_Y_hears_33 rfl rfl ?_
        refine gY_ringOf d_Y_hears_34 ff_Y_17 (by first | assumption | omega) ?_
        refine pv_iload_n d_Y_hears_37 rfl rfl ?_
        refine ly_ringOf d_Y_hears_38 (by first | assumption | omega) (by first | assumption | omega) ?_
        refine pv_aload_n d_Y_hears_39 rfl rfl ?_
        refine gY_ringOf d_Y_hears_40 ff_Y_17 (by first | assumption | omega) ?_
        refine pv_iload_n d_Y_hears_43 rfl rfl ?_
        refine ly_ringOf d_Y_hears_44 (by first | assumption | omega) (by first | assumption | omega) ?_
        first | refine pv_icmpN_ne 52 (by decide) d_Y_hears_45 (by first | assumption | omega) (by first | assumption | omega) (fun h45 => ?_) (fun h45 => ?_) | refine pv_icmp_ne 52 (by decide) d_Y_hears_45 (fun h45 => ?_) (fun h45 => ?_)
        · refine pv_iconst d_Y_hears_52 (nI 0) (by decide) ?_
          refine pv_zret d_Y_hears_53 (by first | rfl | decide) ?_
          have hx : y_hear τ a c = false := decide_eq_false (fun z => h45 z.2.2.2)
          rw [hx] at k
          exact k
        · refine pv_iconst d_Y_hears_48 (nI 1) (by decide) ?_
          refine pv_goto 53 (by decide) d_Y_hears_49 ?_
          refine pv_zret d_Y_hears_53 (by first | rfl | decide) ?_
          have hx : y_hear τ a c = true := decide_eq_true ⟨h6, h15, h30, h45⟩
          rw [hx] at k
          exact k

set_option maxRecDepth 100000 in
set_option maxHeartbeats 4000000 in
theorem k_Y_message {post : Int32 → List va_E → Prop} (hξ : ξ.length = 40) {r q : Nat} (hr : r < 2 ^ 31) (hq : q < 2 ^ 31) (hb : bY τ) (k : post (nI (y_msg τ r q)) (ξ ++ memY τ)) : pv_M l D ty base b 0 0 0 (fun _ => True) y_Y_message c_Y_message 4 (some .int) [.ref (40 + 1), .int (nI (r)), .int (nI (q))] (ξ ++ memY τ) (pv_QI D ty base b post) := by
  refine pv_enter [some (.ref (40 + 1)), some (.int (nI (r))), some (.int (nI (q))), none] (by decide) (fun _ => rfl) (fun _ => Nat.le_of_ble_eq_true rfl) ?_
  have q10 : τ 10 0 < 49 := hb 10 0
  have loop : ∀ (j i : Nat), i + j = τ 10 0 + 1 → 1 ≤ i → post (nI (fnd (fun m => decide (τ 15 m = q ∧ τ 14 m = r)) j i)) (ξ ++ memY τ) → pv_V l D ty base b c_Y_message 4 y_Y_message.cls (some .int) y_Y_message.name (pv_rm 0 0 0) (fun _ => True) (pv_Qf base 0 0 (pv_QI D ty base b post)) 0 0 2 [some (.ref (40 + 1)), some (.int (nI (r))), some (.int (nI (q))), some (.int (nI (i)))] [] (ξ ++ memY τ) := by
    intro j
    induction j with
    | zero =>
      intro i hi h1 k
      refine pv_iload_n d_Y_message_2 rfl rfl ?_
      refine pv_aload_n d_Y_message_3 rfl rfl ?_
      refine gY_messages d_Y_message_4 ff_Y_80 (by first | assumption | omega) ?_
      first | refine pv_icmpN_gt 38 (by decide) d_Y_message_7 (by first | assumption | omega) (by first | assumption | omega) (fun h7 => ?_) (fun h7 => ?_) | refine pv_icmp_gt 38 (by decide) d_Y_message_7 (fun h7 => ?_) (fun h7 => ?_)
      · refine pv_iconst d_Y_message_38 (nI 0) (by decide) ?_
        refine pv_iret d_Y_message_39 ?_
        exact k
      · omega
    | succ j ih =>
      intro i hi h1 k
      unfold fnd at k
      refine pv_iload_n d_Y_message_2 rfl rfl ?_
      refine pv_aload_n d_Y_message_3 rfl rfl ?_
      refine gY_messages d_Y_message_4 ff_Y_80 (by first | assumption | omega) ?_
      first | refine pv_icmpN_gt 38 (by decide) d_Y_message_7 (by first | assumption | omega) (by first | assumption | omega) (fun h7 => ?_) (fun h7 => ?_) | refine pv_icmp_gt 38 (by decide) d_Y_message_7 (fun h7 => ?_) (fun h7 => ?_)
      · omega
      · have q15 : τ 15 i < 49 := hb 15 i
        have q14 : τ 14 i < 520 := hb 14 i
        refine pv_aload_n d_Y_message_10 rfl rfl ?_
        refine gY_number d_Y_message_11 ff_Y_53 (by first | assumption | omega) ?_
        refine pv_iload_n d_Y_message_14 rfl rfl ?_
        refine ly_number d_Y_message_15 (by first | assumption | omega) (by first | assumption | omega) ?_
        refine pv_iload_n d_Y_message_16 rfl rfl ?_
        first | refine pv_icmpN_ne 32 (by decide) d_Y_message_17 (by first | assumption | omega) (by first | assumption | omega) (fun h17 => ?_) (fun h17 => ?_) | refine pv_icmp_ne 32 (by decide) d_Y_message_17 (fun h17 => ?_) (fun h17 => ?_)
        · refine pv_inc3 d_Y_message_32 rfl (by decide) ?_
          refine pv_goto 2 (by decide) d_Y_message_35 ?_
          rw [if_neg (fun z => h17 (of_decide_eq_true z).1)] at k
          exact ih (i + 1) (by omega) (by omega) k
        · refine pv_aload_n d_Y_message_20 rfl rfl ?_
          refine gY_ringIn d_Y_message_21 ff_Y_50 (by first | assumption | omega) ?_
          refine pv_iload_n d_Y_message_24 rfl rfl ?_
          refine ly_ringIn d_Y_message_25 (by first | assumption | omega) (by first | assumption | omega) ?_
          refine pv_iload_n d_Y_message_26 rfl rfl ?_
          first | refine pv_icmpN_ne 32 (by decide) d_Y_message_27 (by first | assumption | omega) (by first | assumption | omega) (fun h27 => ?_) (fun h27 => ?_) | refine pv_icmp_ne 32 (by decide) d_Y_message_27 (fun h27 => ?_) (fun h27 => ?_)
          · refine pv_inc3 d_Y_message_32 rfl (by decide) ?_
            refine pv_goto 2 (by decide) d_Y_message_35 ?_
            rw [if_neg (fun z => h27 (of_decide_eq_true z).2)] at k
            exact ih (i + 1) (by omega) (by omega) k
          · refine pv_iload_n d_Y_message_30 rfl rfl ?_
            refine pv_iret d_Y_message_31 ?_
            rw [if_pos (decide_eq_true ⟨h17, h27⟩)] at k
            exact k
  refine pv_iconst d_Y_message_0 (nI 1) (by decide) ?_
  refine pv_ist3 d_Y_message_1 rfl (by decide) ?_
  exact loop (τ 10 0) 1 (by omega) (by decide) k

set_option maxRecDepth 100000 in
set_option maxHeartbeats 4000000 in
theorem k_Y_first {post : Int32 → List va_E → Prop} (hξ : ξ.length = 40) {n : Nat} (hn : n < 5) (hb : bY τ) (k : post (nI (y_first τ n)) (ξ ++ memY τ)) : pv_M l D ty base b 0 0 0 (fun _ => True) y_Y_first c_Y_first 3 (some .int) [.ref (40 + 1), .int (nI (n))] (ξ ++ memY τ) (pv_QI D ty base b post) := by
  refine pv_enter [some (.ref (40 + 1)), some (.int (nI (n))), none] (by decide) (fun _ => rfl) (fun _ => Nat.le_of_ble_eq_true rfl) ?_
  have q10 : τ 10 0 < 49 := hb 10 0
  have loop : ∀ (j i : Nat), i + j = τ 10 0 + 1 → 1 ≤ i → post (nI (fnd (fun m => y_wait τ n m) j i)) (ξ ++ memY τ) → pv_V l D ty base b c_Y_first 3 y_Y_first.cls (some .int) y_Y_first.name (pv_rm 0 0 0) (fun _ => True) (pv_Qf base 0 0 (pv_QI D ty base b post)) 0 0 2 [some (.ref (40 + 1)), some (.int (nI (n))), some (.int (nI (i)))] [] (ξ ++ memY τ) := by
    intro j
    induction j with
    | zero =>
      intro i hi h1 k
      refine pv_iload_n d_Y_first_2 rfl rfl ?_
      refine pv_aload_n d_Y_first_3 rfl rfl ?_
      refine gY_messages d_Y_first_4 ff_Y_80 (by first | assumption | omega) ?_
      first | refine pv_icmpN_gt 46 (by decide) d_Y_first_7 (by first | assumption | omega) (by first | assumption | omega) (fun h7 => ?_) (fun h7 => ?_) | refine pv_icmp_gt 46 (by decide) d_Y_first_7 (fun h7 => ?_) (fun h7 => ?_)
      · refine pv_iconst d_Y_first_46 (nI 0) (by decide) ?_
        refine pv_iret d_Y_first_47 ?_
        exact k
      · omega
    | succ j ih =>
      intro i hi h1 k
      unfold fnd at k
      refine pv_iload_n d_Y_first_2 rfl rfl ?_
      refine pv_aload_n d_Y_first_3 rfl rfl ?_
      refine gY_messages d_Y_first_4 ff_Y_80 (by first | assumption | omega) ?_
      first | refine pv_icmpN_gt 46 (by decide) d_Y_first_7 (by first | assumption | omega) (by first | assumption | omega) (fun h7 => ?_) (fun h7 => ?_) | refine pv_icmp_gt 46 (by decide) d_Y_first_7 (fun h7 => ?_) (fun h7 => ?_)
      · omega
      · have q11 : τ 11 i < 5 := hb 11 i
        have q15 : τ 15 i < 49 := hb 15 i
        have q13 : τ 13 i < 2 := hb 13 i
        refine pv_aload_n d_Y_first_10 rfl rfl ?_
        refine gY_origin d_Y_first_11 ff_Y_41 (by first | assumption | omega) ?_
        refine pv_iload_n d_Y_first_14 rfl rfl ?_
        refine ly_origin d_Y_first_15 (by first | assumption | omega) (by first | assumption | omega) ?_
        refine pv_iload_n d_Y_first_16 rfl rfl ?_
        first | refine pv_icmpN_ne 40 (by decide) d_Y_first_17 (by first | assumption | omega) (by first | assumption | omega) (fun h17 => ?_) (fun h17 => ?_) | refine pv_icmp_ne 40 (by decide) d_Y_first_17 (fun h17 => ?_) (fun h17 => ?_)
        · refine pv_inc2 d_Y_first_40 rfl (by decide) ?_
          refine pv_goto 2 (by decide) d_Y_first_43 ?_
          rw [if_neg (fun z => h17 (of_decide_eq_true z).1)] at k
          exact ih (i + 1) (by omega) (by omega) k
        · refine pv_aload_n d_Y_first_20 rfl rfl ?_
          refine gY_number d_Y_first_21 ff_Y_53 (by first | assumption | omega) ?_
          refine pv_iload_n d_Y_first_24 rfl rfl ?_
          refine ly_number d_Y_first_25 (by first | assumption | omega) (by first | assumption | omega) ?_
          first | refine pv_ifN_ne 40 (by decide) d_Y_first_26 (by first | assumption | omega) (fun h26 => ?_) (fun h26 => ?_) | refine pv_if_ne 40 (by decide) d_Y_first_26 (fun h26 => ?_) (fun h26 => ?_)
          · refine pv_inc2 d_Y_first_40 rfl (by decide) ?_
            refine pv_goto 2 (by decide) d_Y_first_43 ?_
            rw [if_neg (fun z => h26 (of_decide_eq_true z).2.1)] at k
            exact ih (i + 1) (by omega) (by omega) k
          · refine pv_aload_n d_Y_first_29 rfl rfl ?_
            refine gY_gone d_Y_first_30 ff_Y_47 (by first | assumption | omega) ?_
            refine pv_iload_n d_Y_first_33 rfl rfl ?_
            refine ly_gone d_Y_first_34 (by first | assumption | omega) (by first | assumption | omega) ?_
            first | refine pv_ifN_ne 40 (by decide) d_Y_first_35 (by first | assumption | omega) (fun h35 => ?_) (fun h35 => ?_) | refine pv_if_ne 40 (by decide) d_Y_first_35 (fun h35 => ?_) (fun h35 => ?_)
            · refine pv_inc2 d_Y_first_40 rfl (by decide) ?_
              refine pv_goto 2 (by decide) d_Y_first_43 ?_
              rw [if_neg (fun z => h35 (of_decide_eq_true z).2.2)] at k
              exact ih (i + 1) (by omega) (by omega) k
            · refine pv_iload_n d_Y_first_38 rfl rfl ?_
              refine pv_iret d_Y_first_39 ?_
              rw [if_pos (show y_wait τ n i = true from decide_eq_true ⟨h17, h26, h35⟩)] at k
              exact k
  refine pv_iconst d_Y_first_0 (nI 1) (by decide) ?_
  refine pv_ist2 d_Y_first_1 rfl (by decide) ?_
  exact loop (τ 10 0) 1 (by omega) (by decide) k

set_option maxRecDepth 100000 in
set_option maxHeartbeats 4000000 in
theorem k_Y_has {post : Int32 → List va_E → Prop} (hξ : ξ.length = 40) {n q : Nat} (hn : n < 5) (hq : q < 2 ^ 31) (hb : bY τ) (k : post (nI (b2 (y_has τ n q))) (ξ ++ memY τ)) : pv_M l D ty base b 1 0 0 (fun _ => True) y_Y_has c_Y_has 4 (some .boolean) [.ref (40 + 1), .int (nI (n)), .int (nI (q))] (ξ ++ memY τ) (pv_QI D ty base b post) := by
  refine pv_enter [some (.ref (40 + 1)), some (.int (nI (n))), some (.int (nI (q))), none] (by decide) (fun _ => rfl) (fun _ => Nat.le_of_ble_eq_true rfl) ?_
  have q2 : τ 2 n < 520 := hb 2 n
  have hm := y_msg_lt (r := τ 2 n) (q := q) hb
  have q7 : τ 7 (49 * n + y_msg τ (τ 2 n) q) < 2 := hb 7 _
  refine pv_aload_n d_Y_has_0 rfl rfl ?_
  refine pv_aload_n d_Y_has_1 rfl rfl ?_
  refine gY_ringOf d_Y_has_2 ff_Y_17 (by first | assumption | omega) ?_
  refine pv_iload_n d_Y_has_5 rfl rfl ?_
  refine ly_ringOf d_Y_has_6 (by first | assumption | omega) (by first | assumption | omega) ?_
  refine pv_iload_n d_Y_has_7 rfl rfl ?_
  refine pv_callV2I d_Y_has_8 (k_Y_message hξ (by omega) hq hb ?_) sb_Y_message wm_Y_83 (gy_Y (by first | assumption | omega)) rfl ⟨wi_Y_message, we_Y_message⟩ (by decide) (by decide) (Nat.le_of_ble_eq_true rfl) (by decide) (by decide)
  refine pv_ist3 d_Y_has_11 rfl (by decide) ?_
  refine pv_iload_n d_Y_has_12 rfl rfl ?_
  first | refine pv_ifN_le 34 (by decide) d_Y_has_13 (by first | assumption | omega) (fun h13 => ?_) (fun h13 => ?_) | refine pv_if_le 34 (by decide) d_Y_has_13 (fun h13 => ?_) (fun h13 => ?_)
  · refine pv_iconst d_Y_has_34 (nI 0) (by decide) ?_
    refine pv_zret d_Y_has_35 (by first | rfl | decide) ?_
    have hx : y_has τ n q = false := decide_eq_false (fun z => by omega)
    rw [hx] at k
    exact k
  · refine pv_aload_n d_Y_has_16 rfl rfl ?_
    refine gY_hold d_Y_has_17 ff_Y_32 (by first | assumption | omega) ?_
    refine pv_bipush d_Y_has_20 (nI 49) (by decide) ?_
    refine pv_iload_n d_Y_has_22 rfl rfl ?_
    first | refine pv_imulN d_Y_has_23 ?_ | refine pv_imul d_Y_has_23 ?_
    refine pv_iload_n d_Y_has_24 rfl rfl ?_
    first | refine pv_iaddN d_Y_has_25 ?_ | refine pv_iadd d_Y_has_25 ?_
    refine ly_hold d_Y_has_26 (by first | assumption | omega) (by first | assumption | omega) ?_
    first | refine pv_ifN_eq 34 (by decide) d_Y_has_27 (by first | assumption | omega) (fun h27 => ?_) (fun h27 => ?_) | refine pv_if_eq 34 (by decide) d_Y_has_27 (fun h27 => ?_) (fun h27 => ?_)
    · refine pv_iconst d_Y_has_34 (nI 0) (by decide) ?_
      refine pv_zret d_Y_has_35 (by first | rfl | decide) ?_
      have hx : y_has τ n q = false := decide_eq_false (fun z => z.2 h27)
      rw [hx] at k
      exact k
    · refine pv_iconst d_Y_has_30 (nI 1) (by decide) ?_
      refine pv_goto 35 (by decide) d_Y_has_31 ?_
      refine pv_zret d_Y_has_35 (by first | rfl | decide) ?_
      have hx : y_has τ n q = true := decide_eq_true ⟨h13, h27⟩
      rw [hx] at k
      exact k

set_option maxRecDepth 100000 in
set_option maxHeartbeats 4000000 in
theorem k_Y_reachOf {post : Int32 → List va_E → Prop} (hξ : ξ.length = 40) {n : Nat} (hn : n < 5) (hb : bY τ) (k : post (nI (y_reach τ n)) (ξ ++ memY τ)) : pv_M l D ty base b 2 0 0 (fun _ => True) y_Y_reachOf c_Y_reachOf 3 (some .int) [.ref (40 + 1), .int (nI (n))] (ξ ++ memY τ) (pv_QI D ty base b post) := by
  refine pv_enter [some (.ref (40 + 1)), some (.int (nI (n))), none] (by decide) (fun _ => rfl) (fun _ => Nat.le_of_ble_eq_true rfl) ?_
  have loop : ∀ (j i : Nat), i + j = 48 → post (nI (rch (fun q => y_has τ n q) j i)) (ξ ++ memY τ) → pv_V l D ty base b c_Y_reachOf 3 y_Y_reachOf.cls (some .int) y_Y_reachOf.name (pv_rm 2 0 0) (fun _ => True) (pv_Qf base 0 0 (pv_QI D ty base b post)) 0 0 2 [some (.ref (40 + 1)), some (.int (nI (n))), some (.int (nI (i)))] [] (ξ ++ memY τ) := by
    intro j
    induction j with
    | zero =>
      intro i hi k
      refine pv_iload_n d_Y_reachOf_2 rfl rfl ?_
      refine pv_bipush d_Y_reachOf_3 (nI 48) (by decide) ?_
      first | refine pv_icmpN_ge 25 (by decide) d_Y_reachOf_5 (by first | assumption | omega) (by first | assumption | omega) (fun h5 => ?_) (fun h5 => ?_) | refine pv_icmp_ge 25 (by decide) d_Y_reachOf_5 (fun h5 => ?_) (fun h5 => ?_)
      · refine pv_iload_n d_Y_reachOf_25 rfl rfl ?_
        refine pv_iret d_Y_reachOf_26 ?_
        exact k
      · omega
    | succ j ih =>
      intro i hi k
      unfold rch at k
      refine pv_iload_n d_Y_reachOf_2 rfl rfl ?_
      refine pv_bipush d_Y_reachOf_3 (nI 48) (by decide) ?_
      first | refine pv_icmpN_ge 25 (by decide) d_Y_reachOf_5 (by first | assumption | omega) (by first | assumption | omega) (fun h5 => ?_) (fun h5 => ?_) | refine pv_icmp_ge 25 (by decide) d_Y_reachOf_5 (fun h5 => ?_) (fun h5 => ?_)
      · refine pv_iload_n d_Y_reachOf_25 rfl rfl ?_
        refine pv_iret d_Y_reachOf_26 ?_
        omega
      · refine pv_aload_n d_Y_reachOf_8 rfl rfl ?_
        refine pv_iload_n d_Y_reachOf_9 rfl rfl ?_
        refine pv_iload_n d_Y_reachOf_10 rfl rfl ?_
        refine pv_iconst d_Y_reachOf_11 (nI 1) (by decide) ?_
        first | refine pv_iaddN d_Y_reachOf_12 ?_ | refine pv_iadd d_Y_reachOf_12 ?_
        refine pv_callV2I d_Y_reachOf_13 (k_Y_has hξ hn (by omega) hb ?_) sb_Y_has wm_Y_87 (gy_Y (by first | assumption | omega)) rfl ⟨wi_Y_has, we_Y_has⟩ (by decide) (by decide) (Nat.le_of_ble_eq_true rfl) (by decide) (by decide)
        have hbb := b2_lt (y_has τ n (i + 1))
        first | refine pv_ifN_eq 25 (by decide) d_Y_reachOf_16 (by first | assumption | omega) (fun h16 => ?_) (fun h16 => ?_) | refine pv_if_eq 25 (by decide) d_Y_reachOf_16 (fun h16 => ?_) (fun h16 => ?_)
        · refine pv_iload_n d_Y_reachOf_25 rfl rfl ?_
          refine pv_iret d_Y_reachOf_26 ?_
          rw [if_neg (by rw [b2_0.mp h16]; decide)] at k
          exact k
        · refine pv_inc2 d_Y_reachOf_19 rfl (by decide) ?_
          refine pv_goto 2 (by decide) d_Y_reachOf_22 ?_
          rw [if_pos (b2_n0.mp h16)] at k
          exact ih (i + 1) (by omega) k
  refine pv_iconst d_Y_reachOf_0 (nI 0) (by decide) ?_
  refine pv_ist2 d_Y_reachOf_1 rfl (by decide) ?_
  exact loop 48 0 rfl k

set_option maxRecDepth 100000 in
set_option maxHeartbeats 4000000 in
theorem k_Y_queued {post : Int32 → List va_E → Prop} (hξ : ξ.length = 40) {n : Nat} (hn : n < 5) (hb : bY τ) (k : post (nI (y_qd τ n (τ 10 0))) (ξ ++ memY τ)) : pv_M l D ty base b 0 0 0 (fun _ => True) y_Y_queued c_Y_queued 4 (some .int) [.ref (40 + 1), .int (nI (n))] (ξ ++ memY τ) (pv_QI D ty base b post) := by
  refine pv_enter [some (.ref (40 + 1)), some (.int (nI (n))), none, none] (by decide) (fun _ => rfl) (fun _ => Nat.le_of_ble_eq_true rfl) ?_
  have q10 : τ 10 0 < 49 := hb 10 0
  have loop : ∀ (j i : Nat), i + j = τ 10 0 → pv_V l D ty base b c_Y_queued 4 y_Y_queued.cls (some .int) y_Y_queued.name (pv_rm 0 0 0) (fun _ => True) (pv_Qf base 0 0 (pv_QI D ty base b post)) 0 0 4 [some (.ref (40 + 1)), some (.int (nI (n))), some (.int (nI (y_qd τ n i))), some (.int (nI (i + 1)))] [] (ξ ++ memY τ) := by
    intro j
    induction j with
    | zero =>
      intro i hi
      refine pv_iload_n d_Y_queued_4 rfl rfl ?_
      refine pv_aload_n d_Y_queued_5 rfl rfl ?_
      refine gY_messages d_Y_queued_6 ff_Y_80 (by first | assumption | omega) ?_
      first | refine pv_icmpN_gt 54 (by decide) d_Y_queued_9 (by first | assumption | omega) (by first | assumption | omega) (fun h9 => ?_) (fun h9 => ?_) | refine pv_icmp_gt 54 (by decide) d_Y_queued_9 (fun h9 => ?_) (fun h9 => ?_)
      · refine pv_iload_n d_Y_queued_54 rfl rfl ?_
        refine pv_iret d_Y_queued_55 ?_
        obtain rfl : i = τ 10 0 := by omega
        exact k
      · omega
    | succ j ih =>
      intro i hi
      refine pv_iload_n d_Y_queued_4 rfl rfl ?_
      refine pv_aload_n d_Y_queued_5 rfl rfl ?_
      refine gY_messages d_Y_queued_6 ff_Y_80 (by first | assumption | omega) ?_
      first | refine pv_icmpN_gt 54 (by decide) d_Y_queued_9 (by first | assumption | omega) (by first | assumption | omega) (fun h9 => ?_) (fun h9 => ?_) | refine pv_icmp_gt 54 (by decide) d_Y_queued_9 (fun h9 => ?_) (fun h9 => ?_)
      · omega
      · have q11 : τ 11 (i + 1) < 5 := hb 11 _
        have q15 : τ 15 (i + 1) < 49 := hb 15 _
        have q13 : τ 13 (i + 1) < 2 := hb 13 _
        refine pv_iload_n d_Y_queued_12 rfl rfl ?_
        refine pv_aload_n d_Y_queued_13 rfl rfl ?_
        refine gY_origin d_Y_queued_14 ff_Y_41 (by first | assumption | omega) ?_
        refine pv_iload_n d_Y_queued_17 rfl rfl ?_
        refine ly_origin d_Y_queued_18 (by first | assumption | omega) (by first | assumption | omega) ?_
        refine pv_iload_n d_Y_queued_19 rfl rfl ?_
        first | refine pv_icmpN_ne 45 (by decide) d_Y_queued_20 (by first | assumption | omega) (by first | assumption | omega) (fun h20 => ?_) (fun h20 => ?_) | refine pv_icmp_ne 45 (by decide) d_Y_queued_20 (fun h20 => ?_) (fun h20 => ?_)
        · refine pv_iconst d_Y_queued_45 (nI 0) (by decide) ?_
          first | refine pv_iaddN d_Y_queued_46 ?_ | refine pv_iadd d_Y_queued_46 ?_
          refine pv_ist2 d_Y_queued_47 rfl (by decide) ?_
          refine pv_inc3 d_Y_queued_48 rfl (by decide) ?_
          refine pv_goto 4 (by decide) d_Y_queued_51 ?_
          have hz := ih (i + 1) (by omega)
          rw [y_qd_s] at hz
          rw [show y_wait τ n (i + 1) = false from decide_eq_false (fun z => h20 z.1)] at hz
          exact hz
        · refine pv_aload_n d_Y_queued_23 rfl rfl ?_
          refine gY_number d_Y_queued_24 ff_Y_53 (by first | assumption | omega) ?_
          refine pv_iload_n d_Y_queued_27 rfl rfl ?_
          refine ly_number d_Y_queued_28 (by first | assumption | omega) (by first | assumption | omega) ?_
          first | refine pv_ifN_ne 45 (by decide) d_Y_queued_29 (by first | assumption | omega) (fun h29 => ?_) (fun h29 => ?_) | refine pv_if_ne 45 (by decide) d_Y_queued_29 (fun h29 => ?_) (fun h29 => ?_)
          · refine pv_iconst d_Y_queued_45 (nI 0) (by decide) ?_
            first | refine pv_iaddN d_Y_queued_46 ?_ | refine pv_iadd d_Y_queued_46 ?_
            refine pv_ist2 d_Y_queued_47 rfl (by decide) ?_
            refine pv_inc3 d_Y_queued_48 rfl (by decide) ?_
            refine pv_goto 4 (by decide) d_Y_queued_51 ?_
            have hz := ih (i + 1) (by omega)
            rw [y_qd_s] at hz
            rw [show y_wait τ n (i + 1) = false from decide_eq_false (fun z => h29 z.2.1)] at hz
            exact hz
          · refine pv_aload_n d_Y_queued_32 rfl rfl ?_
            refine gY_gone d_Y_queued_33 ff_Y_47 (by first | assumption | omega) ?_
            refine pv_iload_n d_Y_queued_36 rfl rfl ?_
            refine ly_gone d_Y_queued_37 (by first | assumption | omega) (by first | assumption | omega) ?_
            first | refine pv_ifN_ne 45 (by decide) d_Y_queued_38 (by first | assumption | omega) (fun h38 => ?_) (fun h38 => ?_) | refine pv_if_ne 45 (by decide) d_Y_queued_38 (fun h38 => ?_) (fun h38 => ?_)
            · refine pv_iconst d_Y_queued_45 (nI 0) (by decide) ?_
              first | refine pv_iaddN d_Y_queued_46 ?_ | refine pv_iadd d_Y_queued_46 ?_
              refine pv_ist2 d_Y_queued_47 rfl (by decide) ?_
              refine pv_inc3 d_Y_queued_48 rfl (by decide) ?_
              refine pv_goto 4 (by decide) d_Y_queued_51 ?_
              have hz := ih (i + 1) (by omega)
              rw [y_qd_s] at hz
              rw [show y_wait τ n (i + 1) = false from decide_eq_false (fun z => h38 z.2.2)] at hz
              exact hz
            · refine pv_iconst d_Y_queued_41 (nI 1) (by decide) ?_
              refine pv_goto 46 (by decide) d_Y_queued_42 ?_
              first | refine pv_iaddN d_Y_queued_46 ?_ | refine pv_iadd d_Y_queued_46 ?_
              refine pv_ist2 d_Y_queued_47 rfl (by decide) ?_
              refine pv_inc3 d_Y_queued_48 rfl (by decide) ?_
              refine pv_goto 4 (by decide) d_Y_queued_51 ?_
              have hz := ih (i + 1) (by omega)
              rw [y_qd_s] at hz
              rw [show y_wait τ n (i + 1) = true from decide_eq_true ⟨h20, h29, h38⟩] at hz
              exact hz
  refine pv_iconst d_Y_queued_0 (nI 0) (by decide) ?_
  refine pv_ist2 d_Y_queued_1 rfl (by decide) ?_
  refine pv_iconst d_Y_queued_2 (nI 1) (by decide) ?_
  refine pv_ist3 d_Y_queued_3 rfl (by decide) ?_
  exact loop (τ 10 0) 0 (by omega)

set_option maxRecDepth 100000 in
set_option maxHeartbeats 4000000 in
theorem k_Y_broadcast {post : List va_E → Prop} (hξ : ξ.length = 40) {n m : Nat} (hn : n < 5) (hm : m < 49) (hb : bY τ) (k : post (ξ ++ memY (y_bcast τ n m))) : pv_M l D ty base b 1 0 0 (fun _ => True) y_Y_broadcast c_Y_broadcast 4 none [.ref (40 + 1), .int (nI (n)), .int (nI (m))] (ξ ++ memY τ) (pv_QV D ty base b post) := by
  refine pv_enter [some (.ref (40 + 1)), some (.int (nI (n))), some (.int (nI (m))), none] (by decide) (fun _ => rfl) (fun _ => Nat.le_of_ble_eq_true rfl) ?_
  have hbs : bY (sU τ 7 (49 * n + m) 1) := bY_sU hb (by decide)
  have loop : ∀ (j i : Nat), i + j = 5 → pv_V l D ty base b c_Y_broadcast 4 y_Y_broadcast.cls none y_Y_broadcast.name (pv_rm 1 0 0) (fun _ => True) (pv_Qf base 0 0 (pv_QV D ty base b post)) 0 0 14 [some (.ref (40 + 1)), some (.int (nI (n))), some (.int (nI (m))), some (.int (nI (i)))] [] (ξ ++ memY (y_bc n m (sU τ 7 (49 * n + m) 1) i)) := by
    intro j
    induction j with
    | zero =>
      intro i hi
      refine pv_iload_n d_Y_broadcast_14 rfl rfl ?_
      refine pv_iconst d_Y_broadcast_15 (nI 5) (by decide) ?_
      first | refine pv_icmpN_ge 73 (by decide) d_Y_broadcast_16 (by first | assumption | omega) (by first | assumption | omega) (fun h16 => ?_) (fun h16 => ?_) | refine pv_icmp_ge 73 (by decide) d_Y_broadcast_16 (fun h16 => ?_) (fun h16 => ?_)
      · refine pv_vret d_Y_broadcast_73 ?_
        obtain rfl : i = 5 := by omega
        exact k
      · omega
    | succ j ih =>
      intro i hi
      refine pv_iload_n d_Y_broadcast_14 rfl rfl ?_
      refine pv_iconst d_Y_broadcast_15 (nI 5) (by decide) ?_
      first | refine pv_icmpN_ge 73 (by decide) d_Y_broadcast_16 (by first | assumption | omega) (by first | assumption | omega) (fun h16 => ?_) (fun h16 => ?_) | refine pv_icmp_ge 73 (by decide) d_Y_broadcast_16 (fun h16 => ?_) (fun h16 => ?_)
      · omega
      · refine pv_iload_n d_Y_broadcast_19 rfl rfl ?_
        refine pv_iload_n d_Y_broadcast_20 rfl rfl ?_
        first | refine pv_icmpN_eq 67 (by decide) d_Y_broadcast_21 (by first | assumption | omega) (by first | assumption | omega) (fun h21 => ?_) (fun h21 => ?_) | refine pv_icmp_eq 67 (by decide) d_Y_broadcast_21 (fun h21 => ?_) (fun h21 => ?_)
        · refine pv_inc3 d_Y_broadcast_67 rfl (by decide) ?_
          refine pv_goto 14 (by decide) d_Y_broadcast_70 ?_
          have hz := ih (i + 1) (by omega)
          rw [y_bc_s] at hz
          rw [if_neg (fun z => z.1 h21)] at hz
          exact hz
        · refine pv_aload_n d_Y_broadcast_24 rfl rfl ?_
          refine pv_iload_n d_Y_broadcast_25 rfl rfl ?_
          refine pv_iload_n d_Y_broadcast_26 rfl rfl ?_
          refine pv_callV2I d_Y_broadcast_27 (k_Y_hears hξ (by omega) hn (bY_bc hbs i) ?_) sb_Y_hears wm_Y_98 (gy_Y (by first | assumption | omega)) rfl ⟨wi_Y_hears, we_Y_hears⟩ (by decide) (by decide) (Nat.le_of_ble_eq_true rfl) (by decide) (by decide)
          have hbb := b2_lt (y_hear (y_bc n m (sU τ 7 (49 * n + m) 1) i) i n)
          have q5 : y_bc n m (sU τ 7 (49 * n + m) 1) i 5 i < 21 := bY_bc hbs i 5 i
          first | refine pv_ifN_eq 67 (by decide) d_Y_broadcast_30 (by first | assumption | omega) (fun h30 => ?_) (fun h30 => ?_) | refine pv_if_eq 67 (by decide) d_Y_broadcast_30 (fun h30 => ?_) (fun h30 => ?_)
          · refine pv_inc3 d_Y_broadcast_67 rfl (by decide) ?_
            refine pv_goto 14 (by decide) d_Y_broadcast_70 ?_
            have hz := ih (i + 1) (by omega)
            rw [y_bc_s] at hz
            rw [if_neg (fun z => absurd z.2 (by rw [b2_0.mp h30]; decide))] at hz
            exact hz
          · refine pv_aload_n d_Y_broadcast_33 rfl rfl ?_
            refine gY_deaf d_Y_broadcast_34 ff_Y_26 (by first | assumption | omega) ?_
            refine pv_iload_n d_Y_broadcast_37 rfl rfl ?_
            refine ly_deaf d_Y_broadcast_38 (by first | assumption | omega) (by first | assumption | omega) ?_
            first | refine pv_ifN_le 55 (by decide) d_Y_broadcast_39 (by first | assumption | omega) (fun h39 => ?_) (fun h39 => ?_) | refine pv_if_le 55 (by decide) d_Y_broadcast_39 (fun h39 => ?_) (fun h39 => ?_)
            · refine pv_aload_n d_Y_broadcast_55 rfl rfl ?_
              refine gY_hold d_Y_broadcast_56 ff_Y_32 (by first | assumption | omega) ?_
              refine pv_bipush d_Y_broadcast_59 (nI 49) (by decide) ?_
              refine pv_iload_n d_Y_broadcast_61 rfl rfl ?_
              first | refine pv_imulN d_Y_broadcast_62 ?_ | refine pv_imul d_Y_broadcast_62 ?_
              refine pv_iload_n d_Y_broadcast_63 rfl rfl ?_
              first | refine pv_iaddN d_Y_broadcast_64 ?_ | refine pv_iadd d_Y_broadcast_64 ?_
              refine pv_iconst d_Y_broadcast_65 (nI 1) (by decide) ?_
              refine sy_hold d_Y_broadcast_66 (by first | assumption | omega) (by first | assumption | omega) (nar_b (by omega)) ?_
              refine pv_inc3 d_Y_broadcast_67 rfl (by decide) ?_
              refine pv_goto 14 (by decide) d_Y_broadcast_70 ?_
              have hz := ih (i + 1) (by omega)
              rw [y_bc_s] at hz
              rw [if_pos ⟨h21, b2_n0.mp h30⟩] at hz
              unfold y_recv at hz
              rw [if_neg (by omega)] at hz
              exact hz
            · refine pv_aload_n d_Y_broadcast_42 rfl rfl ?_
              refine gY_deaf d_Y_broadcast_43 ff_Y_26 (by first | assumption | omega) ?_
              refine pv_iload_n d_Y_broadcast_46 rfl rfl ?_
              refine pv_dup2 d_Y_broadcast_47 rfl rfl ?_
              refine ly_deaf d_Y_broadcast_48 (by first | assumption | omega) (by first | assumption | omega) ?_
              refine pv_iconst d_Y_broadcast_49 (nI 1) (by decide) ?_
              first | refine pv_isubN d_Y_broadcast_50 (by omega) ?_ | refine pv_isub d_Y_broadcast_50 ?_
              refine sy_deaf d_Y_broadcast_51 (by first | assumption | omega) (by first | assumption | omega) ?_
              refine pv_goto 67 (by decide) d_Y_broadcast_52 ?_
              refine pv_inc3 d_Y_broadcast_67 rfl (by decide) ?_
              refine pv_goto 14 (by decide) d_Y_broadcast_70 ?_
              have hz := ih (i + 1) (by omega)
              rw [y_bc_s] at hz
              rw [if_pos ⟨h21, b2_n0.mp h30⟩] at hz
              unfold y_recv at hz
              rw [if_pos h39] at hz
              exact hz
  refine pv_aload_n d_Y_broadcast_0 rfl rfl ?_
  refine gY_hold d_Y_broadcast_1 ff_Y_32 (by first | assumption | omega) ?_
  refine pv_bipush d_Y_broadcast_4 (nI 49) (by decide) ?_
  refine pv_iload_n d_Y_broadcast_6 rfl rfl ?_
  first | refine pv_imulN d_Y_broadcast_7 ?_ | refine pv_imul d_Y_broadcast_7 ?_
  refine pv_iload_n d_Y_broadcast_8 rfl rfl ?_
  first | refine pv_iaddN d_Y_broadcast_9 ?_ | refine pv_iadd d_Y_broadcast_9 ?_
  refine pv_iconst d_Y_broadcast_10 (nI 1) (by decide) ?_
  refine sy_hold d_Y_broadcast_11 (by first | assumption | omega) (by first | assumption | omega) (nar_b (by omega)) ?_
  refine pv_iconst d_Y_broadcast_12 (nI 0) (by decide) ?_
  refine pv_ist3 d_Y_broadcast_13 rfl (by decide) ?_
  exact loop 5 0 rfl

set_option maxRecDepth 100000 in
set_option maxHeartbeats 4000000 in
theorem k_Y_append {post : List va_E → Prop} (hξ : ξ.length = 40) {n e : Nat} (hn : n < 5) (h9 : τ 9 n < 48) (k : post (ξ ++ memY (y_app τ n e))) : pv_M l D ty base b 0 0 0 (fun _ => True) y_Y_append c_Y_append 3 none [.ref (40 + 1), .int (nI (n)), .int (nI (e))] (ξ ++ memY τ) (pv_QV D ty base b post) := by
  refine pv_enter [some (.ref (40 + 1)), some (.int (nI (n))), some (.int (nI (e)))] (by decide) (fun _ => rfl) (fun _ => Nat.le_of_ble_eq_true rfl) ?_
  refine pv_aload_n d_Y_append_0 rfl rfl ?_
  refine gY_logs d_Y_append_1 ff_Y_35 (by first | assumption | omega) ?_
  refine pv_bipush d_Y_append_4 (nI 48) (by decide) ?_
  refine pv_iload_n d_Y_append_6 rfl rfl ?_
  first | refine pv_imulN d_Y_append_7 ?_ | refine pv_imul d_Y_append_7 ?_
  refine pv_aload_n d_Y_append_8 rfl rfl ?_
  refine gY_entries d_Y_append_9 ff_Y_38 (by first | assumption | omega) ?_
  refine pv_iload_n d_Y_append_12 rfl rfl ?_
  refine ly_entries d_Y_append_13 (by first | assumption | omega) (by first | assumption | omega) ?_
  first | refine pv_iaddN d_Y_append_14 ?_ | refine pv_iadd d_Y_append_14 ?_
  refine pv_iload_n d_Y_append_15 rfl rfl ?_
  refine sy_logs d_Y_append_16 (by first | assumption | omega) (by first | assumption | omega) ?_
  refine pv_aload_n d_Y_append_17 rfl rfl ?_
  refine gY_entries d_Y_append_18 ff_Y_38 (by first | assumption | omega) ?_
  refine pv_iload_n d_Y_append_21 rfl rfl ?_
  refine pv_dup2 d_Y_append_22 rfl rfl ?_
  refine ly_entries d_Y_append_23 (by first | assumption | omega) (by first | assumption | omega) ?_
  rw [sU_nef (show (9 : Nat) ≠ 8 by decide)]
  refine pv_iconst d_Y_append_24 (nI 1) (by decide) ?_
  first | refine pv_iaddN d_Y_append_25 ?_ | refine pv_iadd d_Y_append_25 ?_
  refine sy_entries d_Y_append_26 (by first | assumption | omega) (by first | assumption | omega) ?_
  refine pv_vret d_Y_append_27 ?_
  exact k

end REF
