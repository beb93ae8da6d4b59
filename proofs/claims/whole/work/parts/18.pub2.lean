/-! 18.pub2: what the public methods of RotatingTokenGroup that change it do -/
section PUB2
variable {l : Launch} {D : va_G} {ty : Nat → ClassId} {base b : Nat} {σ : Nat → Nat → Nat} {ρ ξ : List va_E}
variable {M : List va_E}
set_option maxRecDepth 100000 in
set_option maxHeartbeats 4000000 in
theorem k_O_send_no {post : Int32 → List va_E → Prop} {x : Int32} {s : Nat} (h : x < 0 ∨ nI 5 ≤ x) (k : post (-3) (memX σ ++ ρ)) : pv_M l D ty base b 1 0 0 (fun _ => True) y_O_send c_O_send 5 (some .int) [.ref (0 + 1), .int x, .int (nI s)] (memX σ ++ ρ) (pv_QI D ty base b post) := by
  refine pv_enter [some (.ref (0 + 1)), some (.int x), some (.int (nI s)), none, none] (by decide) (fun _ => rfl) (fun _ => Nat.le_of_ble_eq_true rfl) ?_
  refine pv_iload_n d_O_send_0 rfl rfl ?_
  refine pv_callS1I d_O_send_1 (k_O_isNode_no h ?_) sb_O_isNode wm_O_39 ws_O_isNode (by decide) (by decide) (Nat.le_of_ble_eq_true rfl) (by decide) (by decide)
  first | refine pv_ifN_ne 10 (by decide) d_O_send_4 (by first | assumption | omega) (fun h4 => ?_) (fun h4 => ?_) | refine pv_if_ne 10 (by decide) d_O_send_4 (fun h4 => ?_) (fun h4 => ?_)
  · exact absurd h4 (by decide)
  · refine pv_bipush d_O_send_7 (-3) (by decide) ?_
    refine pv_iret d_O_send_9 ?_
    exact k

theorem bX_take {n s : Nat} {σ : Nat → Nat → Nat} (hb : bX σ) (h15 : σ 15 0 < 48) (hn : n < 5) (hs : s ≤ 1) : bX (x_take σ n s) := bX_sU (bX_sU (bX_sU hb (show _ < 49 by omega)) hn) (show s < 2 by omega)
theorem x_take_ne {n s f j : Nat} {σ : Nat → Nat → Nat} (h1 : f ≠ 15) (h2 : f ≠ 60) (h3 : f ≠ 61) : x_take σ n s f j = σ f j := by
  unfold x_take
  rw [sU_nef h3, sU_nef h2, sU_nef h1]
set_option maxRecDepth 100000 in
set_option maxHeartbeats 4000000 in
theorem k_O_send {post : Int32 → List va_E → Prop} {n s : Nat} (hn : n < 5) (hs : s ≤ 1) (hb : bX σ) (k : post (a_send σ n s).1 (memX (a_send σ n s).2 ++ ρ)) : pv_M l D ty base b 1 0 0 (fun _ => True) y_O_send c_O_send 5 (some .int) [.ref (0 + 1), .int (nI n), .int (nI s)] (memX σ ++ ρ) (pv_QI D ty base b post) := by
  refine pv_enter [some (.ref (0 + 1)), some (.int (nI n)), some (.int (nI s)), none, none] (by decide) (fun _ => rfl) (fun _ => Nat.le_of_ble_eq_true rfl) ?_
  refine pv_iload_n d_O_send_0 rfl rfl ?_
  refine pv_callS1I d_O_send_1 (k_O_isNode hn ?_) sb_O_isNode wm_O_39 ws_O_isNode (by decide) (by decide) (Nat.le_of_ble_eq_true rfl) (by decide) (by decide)
  first | refine pv_ifN_ne 10 (by decide) d_O_send_4 (by first | assumption | omega) (fun h4 => ?_) (fun h4 => ?_) | refine pv_if_ne 10 (by decide) d_O_send_4 (fun h4 => ?_) (fun h4 => ?_)
  · refine pv_aload_n d_O_send_10 rfl rfl ?_
    refine gO_nodes d_O_send_11 ff_O_11 ?_
    refine pv_iload_n d_O_send_14 rfl rfl ?_
    refine l_nodes d_O_send_15 (by first | assumption | omega) ?_
    refine pv_ast3 d_O_send_16 rfl (by decide) ?_
    refine pv_aload_n d_O_send_17 rfl rfl ?_
    refine pv_callV0I d_O_send_18 (k_N_isUp hn ?_) sb_N_isUp wm_O_43 (gx_N (by first | assumption | omega)) rfl ⟨wi_N_isUp, we_N_isUp⟩ (by decide) (by decide) (Nat.le_of_ble_eq_true rfl) (by decide) (by decide)
    have hbb := b2_lt (decide (σ 1 n ≠ 0))
    have h15 : σ 15 0 < 49 := hb 15 0
    have h3 : σ 3 n < 9 := hb 3 n
    first | refine pv_ifN_ne 27 (by decide) d_O_send_21 (by first | assumption | omega) (fun h21 => ?_) (fun h21 => ?_) | refine pv_if_ne 27 (by decide) d_O_send_21 (fun h21 => ?_) (fun h21 => ?_)
    · refine pv_aload_n d_O_send_27 rfl rfl ?_
      refine gO_messages d_O_send_28 ff_O_28 ?_
      refine gM_taken d_O_send_31 ff_O_47 ?_
      refine pv_bipush d_O_send_34 (nI 48) (by decide) ?_
      first | refine pv_icmpN_ge 48 (by decide) d_O_send_36 (by first | assumption | omega) (by first | assumption | omega) (fun h36 => ?_) (fun h36 => ?_) | refine pv_icmp_ge 48 (by decide) d_O_send_36 (fun h36 => ?_) (fun h36 => ?_)
      · refine pv_bipush d_O_send_48 (-4) (by decide) ?_
        refine pv_iret d_O_send_50 ?_
        rw [a_send, if_neg (of_decide_eq_true (b2_n0.mp h21))] at k
        rw [if_pos h36] at k
        exact k
      · refine pv_aload_n d_O_send_39 rfl rfl ?_
        refine gN_queued d_O_send_40 ff_O_50 (by first | assumption | omega) ?_
        refine pv_bipush d_O_send_43 (nI 8) (by decide) ?_
        first | refine pv_icmpN_lt 51 (by decide) d_O_send_45 (by first | assumption | omega) (by first | assumption | omega) (fun h45 => ?_) (fun h45 => ?_) | refine pv_icmp_lt 51 (by decide) d_O_send_45 (fun h45 => ?_) (fun h45 => ?_)
        · refine pv_aload_n d_O_send_51 rfl rfl ?_
          refine gO_messages d_O_send_52 ff_O_28 ?_
          refine pv_iload_n d_O_send_55 rfl rfl ?_
          refine pv_iload_n d_O_send_56 rfl rfl ?_
          refine pv_callV2I d_O_send_57 (k_M_take h36 hs ?_) sb_M_take wm_O_53 gx_M rfl ⟨wi_M_take, we_M_take⟩ (by decide) (by decide) (Nat.le_of_ble_eq_true rfl) (by decide) (by decide)
          refine pv_ist4 d_O_send_60 rfl (by decide) ?_
          refine pv_aload_n d_O_send_62 rfl rfl ?_
          refine pv_iload d_O_send_63 rfl ?_
          refine pv_callV1V d_O_send_65 (k_N_enqueue hn (bX_take hb h36 hn hs) ?_) sb_N_enqueue wm_O_57 (gx_N (by first | assumption | omega)) rfl ⟨wi_N_enqueue, we_N_enqueue⟩ (by decide) (by decide) (Nat.le_of_ble_eq_true rfl) (by decide) (by decide)
          refine pv_iload d_O_send_68 rfl ?_
          refine pv_iret d_O_send_70 ?_
          rw [a_send, if_neg (of_decide_eq_true (b2_n0.mp h21))] at k
          rw [if_neg (Nat.not_le.mpr h36)] at k
          rw [if_neg (Nat.not_le.mpr h45)] at k
          exact k
        · refine pv_bipush d_O_send_48 (-4) (by decide) ?_
          refine pv_iret d_O_send_50 ?_
          rw [a_send, if_neg (of_decide_eq_true (b2_n0.mp h21))] at k
          rw [if_neg (Nat.not_le.mpr h36)] at k
          rw [if_pos h45] at k
          exact k
    · refine pv_bipush d_O_send_24 (-2) (by decide) ?_
      refine pv_iret d_O_send_26 ?_
      rw [a_send, if_pos (Decidable.not_not.mp (of_decide_eq_false (b2_0.mp h21)))] at k
      exact k
  · refine pv_bipush d_O_send_7 (-3) (by decide) ?_
    refine pv_iret d_O_send_9 ?_
    exact absurd h4 (by decide)

set_option maxRecDepth 100000 in
set_option maxHeartbeats 4000000 in
theorem k_O_tick_no {post : Int32 → List va_E → Prop} {x : Int32} (h : x < 0 ∨ nI 5 ≤ x) (k : post (-3) (memX σ ++ ρ)) : pv_M l D ty base b 1 0 0 (fun _ => True) y_O_tick c_O_tick 3 (some .int) [.ref (0 + 1), .int x] (memX σ ++ ρ) (pv_QI D ty base b post) := by
  refine pv_enter [some (.ref (0 + 1)), some (.int x), none] (by decide) (fun _ => rfl) (fun _ => Nat.le_of_ble_eq_true rfl) ?_
  refine pv_iload_n d_O_tick_0 rfl rfl ?_
  refine pv_callS1I d_O_tick_1 (k_O_isNode_no h ?_) sb_O_isNode wm_O_39 ws_O_isNode (by decide) (by decide) (Nat.le_of_ble_eq_true rfl) (by decide) (by decide)
  first | refine pv_ifN_ne 10 (by decide) d_O_tick_4 (by first | assumption | omega) (fun h4 => ?_) (fun h4 => ?_) | refine pv_if_ne 10 (by decide) d_O_tick_4 (fun h4 => ?_) (fun h4 => ?_)
  · exact absurd h4 (by decide)
  · refine pv_bipush d_O_tick_7 (-3) (by decide) ?_
    refine pv_iret d_O_tick_9 ?_
    exact k

set_option maxRecDepth 100000 in
set_option maxHeartbeats 4000000 in
theorem k_O_tick {post : Int32 → List va_E → Prop} {n : Nat} (hn : n < 5) (hb : bX σ) (h9 : σ 9 n ≤ 3) (h0 : σ 0 0 + 1 < 600) (k : post (a_tick σ n).1 (memX (a_tick σ n).2 ++ ρ)) : pv_M l D ty base b 5 0 0 (fun _ => True) y_O_tick c_O_tick 3 (some .int) [.ref (0 + 1), .int (nI n)] (memX σ ++ ρ) (pv_QI D ty base b post) := by
  refine pv_enter [some (.ref (0 + 1)), some (.int (nI n)), none] (by decide) (fun _ => rfl) (fun _ => Nat.le_of_ble_eq_true rfl) ?_
  refine pv_iload_n d_O_tick_0 rfl rfl ?_
  refine pv_callS1I d_O_tick_1 (k_O_isNode hn ?_) sb_O_isNode wm_O_39 ws_O_isNode (by decide) (by decide) (Nat.le_of_ble_eq_true rfl) (by decide) (by decide)
  first | refine pv_ifN_ne 10 (by decide) d_O_tick_4 (by first | assumption | omega) (fun h4 => ?_) (fun h4 => ?_) | refine pv_if_ne 10 (by decide) d_O_tick_4 (fun h4 => ?_) (fun h4 => ?_)
  · refine pv_aload_n d_O_tick_10 rfl rfl ?_
    refine gO_nodes d_O_tick_11 ff_O_11 ?_
    refine pv_iload_n d_O_tick_14 rfl rfl ?_
    refine l_nodes d_O_tick_15 (by first | assumption | omega) ?_
    refine pv_ast2 d_O_tick_16 rfl (by decide) ?_
    refine pv_aload_n d_O_tick_17 rfl rfl ?_
    refine pv_callV0I d_O_tick_18 (k_N_isUp hn ?_) sb_N_isUp wm_O_43 (gx_N (by first | assumption | omega)) rfl ⟨wi_N_isUp, we_N_isUp⟩ (by decide) (by decide) (Nat.le_of_ble_eq_true rfl) (by decide) (by decide)
    have hbb := b2_lt (decide (σ 1 n ≠ 0))
    have h5 : σ 5 n < 3 := hb 5 n
    first | refine pv_ifN_ne 27 (by decide) d_O_tick_21 (by first | assumption | omega) (fun h21 => ?_) (fun h21 => ?_) | refine pv_if_ne 27 (by decide) d_O_tick_21 (fun h21 => ?_) (fun h21 => ?_)
    · refine pv_aload_n d_O_tick_27 rfl rfl ?_
      refine pv_dup d_O_tick_28 rfl ?_
      refine gN_timer d_O_tick_29 ff_O_89 (by first | assumption | omega) ?_
      refine pv_iconst d_O_tick_32 (nI 1) (by decide) ?_
      first | refine pv_iaddN d_O_tick_33 ?_ | refine pv_iadd d_O_tick_33 ?_
      refine pN_timer d_O_tick_34 ff_O_89 (by first | assumption | omega) ?_
      refine pv_aload_n d_O_tick_37 rfl rfl ?_
      refine gN_timer d_O_tick_38 ff_O_89 (by first | assumption | omega) ?_
      rw [sU_same]
      refine pv_iconst d_O_tick_41 (nI 4) (by decide) ?_
      first | refine pv_icmpN_ge 47 (by decide) d_O_tick_42 (by first | assumption | omega) (by first | assumption | omega) (fun h42 => ?_) (fun h42 => ?_) | refine pv_icmp_ge 47 (by decide) d_O_tick_42 (fun h42 => ?_) (fun h42 => ?_)
      · refine pv_aload_n d_O_tick_47 rfl rfl ?_
        refine pv_aload_n d_O_tick_48 rfl rfl ?_
        refine gN_area d_O_tick_49 ff_O_96 (by first | assumption | omega) ?_
        rw [sU_nef (by decide)]
        refine pv_callV1V d_O_tick_52 (k_O_formAnew (by omega) (bX_sU hb (show _ < 5 by omega)) (by rw [sU_nef (by decide)]; exact h0) ?_) sb_O_formAnew wm_O_99 gx_O rfl ⟨wi_O_formAnew, we_O_formAnew⟩ (by decide) (by decide) (Nat.le_of_ble_eq_true rfl) (by decide) (by decide)
        refine pv_iconst d_O_tick_55 (nI 1) (by decide) ?_
        refine pv_iret d_O_tick_56 ?_
        rw [a_tick, if_neg (of_decide_eq_true (b2_n0.mp h21))] at k
        rw [if_neg (Nat.not_lt.mpr h42)] at k
        exact k
      · refine pv_iconst d_O_tick_45 (nI 0) (by decide) ?_
        refine pv_iret d_O_tick_46 ?_
        rw [a_tick, if_neg (of_decide_eq_true (b2_n0.mp h21))] at k
        rw [if_pos h42] at k
        exact k
    · refine pv_bipush d_O_tick_24 (-2) (by decide) ?_
      refine pv_iret d_O_tick_26 ?_
      rw [a_tick, if_pos (Decidable.not_not.mp (of_decide_eq_false (b2_0.mp h21)))] at k
      exact k
  · refine pv_bipush d_O_tick_7 (-3) (by decide) ?_
    refine pv_iret d_O_tick_9 ?_
    exact absurd h4 (by decide)

set_option maxRecDepth 100000 in
set_option maxHeartbeats 4000000 in
theorem k_O_crash_no {post : Int32 → List va_E → Prop} {x : Int32} (h : x < 0 ∨ nI 5 ≤ x) (k : post (nI 0) (memX σ ++ ρ)) : pv_M l D ty base b 2 0 0 (fun _ => True) y_O_crash c_O_crash 2 (some .boolean) [.ref (0 + 1), .int x] (memX σ ++ ρ) (pv_QI D ty base b post) := by
  refine pv_enter [some (.ref (0 + 1)), some (.int x)] (by decide) (fun _ => rfl) (fun _ => Nat.le_of_ble_eq_true rfl) ?_
  refine pv_aload_n d_O_crash_0 rfl rfl ?_
  refine pv_iload_n d_O_crash_1 rfl rfl ?_
  refine pv_callV1I d_O_crash_2 (k_O_isUpNode_no h ?_) sb_O_isUpNode wm_O_106 gx_O rfl ⟨wi_O_isUpNode, we_O_isUpNode⟩ (by decide) (by decide) (Nat.le_of_ble_eq_true rfl) (by decide) (by decide)
  first | refine pv_ifN_ne 10 (by decide) d_O_crash_5 (by first | assumption | omega) (fun h5 => ?_) (fun h5 => ?_) | refine pv_if_ne 10 (by decide) d_O_crash_5 (fun h5 => ?_) (fun h5 => ?_)
  · exact absurd h5 (by decide)
  · refine pv_iconst d_O_crash_8 (nI 0) (by decide) ?_
    refine pv_zret d_O_crash_9 (by first | rfl | decide) ?_
    exact k

set_option maxRecDepth 100000 in
set_option maxHeartbeats 4000000 in
theorem k_O_crash {post : Int32 → List va_E → Prop} {n : Nat} (hn : n < 5) (hb : bX σ) (k : post (a_crash σ n).1 (memX (a_crash σ n).2 ++ ρ)) : pv_M l D ty base b 2 0 0 (fun _ => True) y_O_crash c_O_crash 2 (some .boolean) [.ref (0 + 1), .int (nI n)] (memX σ ++ ρ) (pv_QI D ty base b post) := by
  refine pv_enter [some (.ref (0 + 1)), some (.int (nI n))] (by decide) (fun _ => rfl) (fun _ => Nat.le_of_ble_eq_true rfl) ?_
  refine pv_aload_n d_O_crash_0 rfl rfl ?_
  refine pv_iload_n d_O_crash_1 rfl rfl ?_
  refine pv_callV1I d_O_crash_2 (k_O_isUpNode hn ?_) sb_O_isUpNode wm_O_106 gx_O rfl ⟨wi_O_isUpNode, we_O_isUpNode⟩ (by decide) (by decide) (Nat.le_of_ble_eq_true rfl) (by decide) (by decide)
  have hbb := b2_lt (decide (σ 1 n ≠ 0))
  first | refine pv_ifN_ne 10 (by decide) d_O_crash_5 (by first | assumption | omega) (fun h5 => ?_) (fun h5 => ?_) | refine pv_if_ne 10 (by decide) d_O_crash_5 (fun h5 => ?_) (fun h5 => ?_)
  · refine pv_aload_n d_O_crash_10 rfl rfl ?_
    refine gO_nodes d_O_crash_11 ff_O_11 ?_
    refine pv_iload_n d_O_crash_14 rfl rfl ?_
    refine l_nodes d_O_crash_15 (by first | assumption | omega) ?_
    refine pv_callV0V d_O_crash_16 (k_N_goDown hn hb ?_) sb_N_goDown wm_O_109 (gx_N (by first | assumption | omega)) rfl ⟨wi_N_goDown, we_N_goDown⟩ (by decide) (by decide) (Nat.le_of_ble_eq_true rfl) (by decide) (by decide)
    refine pv_iconst d_O_crash_19 (nI 1) (by decide) ?_
    refine pv_zret d_O_crash_20 (by first | rfl | decide) ?_
    rw [a_crash, if_neg (of_decide_eq_true (b2_n0.mp h5))] at k
    exact k
  · refine pv_iconst d_O_crash_8 (nI 0) (by decide) ?_
    refine pv_zret d_O_crash_9 (by first | rfl | decide) ?_
    rw [a_crash, if_pos (Decidable.not_not.mp (of_decide_eq_false (b2_0.mp h5)))] at k
    exact k

set_option maxRecDepth 100000 in
set_option maxHeartbeats 4000000 in
theorem k_O_restart_no {post : Int32 → List va_E → Prop} {x : Int32} (h : x < 0 ∨ nI 5 ≤ x) (k : post (nI 0) (memX σ ++ ρ)) : pv_M l D ty base b 1 0 0 (fun _ => True) y_O_restart c_O_restart 2 (some .boolean) [.ref (0 + 1), .int x] (memX σ ++ ρ) (pv_QI D ty base b post) := by
  refine pv_enter [some (.ref (0 + 1)), some (.int x)] (by decide) (fun _ => rfl) (fun _ => Nat.le_of_ble_eq_true rfl) ?_
  refine pv_iload_n d_O_restart_0 rfl rfl ?_
  refine pv_callS1I d_O_restart_1 (k_O_isNode_no h ?_) sb_O_isNode wm_O_39 ws_O_isNode (by decide) (by decide) (Nat.le_of_ble_eq_true rfl) (by decide) (by decide)
  first | refine pv_ifN_eq 19 (by decide) d_O_restart_4 (by first | assumption | omega) (fun h4 => ?_) (fun h4 => ?_) | refine pv_if_eq 19 (by decide) d_O_restart_4 (fun h4 => ?_) (fun h4 => ?_)
  · refine pv_iconst d_O_restart_19 (nI 0) (by decide) ?_
    refine pv_zret d_O_restart_20 (by first | rfl | decide) ?_
    exact k
  · exact absurd rfl h4

set_option maxRecDepth 100000 in
set_option maxHeartbeats 4000000 in
theorem k_O_restart {post : Int32 → List va_E → Prop} {n : Nat} (hn : n < 5) (hb : bX σ) (h0 : σ 0 0 + 1 < 600) (k : post (a_restart σ n).1 (memX (a_restart σ n).2 ++ ρ)) : pv_M l D ty base b 4 0 0 (fun _ => True) y_O_restart c_O_restart 2 (some .boolean) [.ref (0 + 1), .int (nI n)] (memX σ ++ ρ) (pv_QI D ty base b post) := by
  refine pv_enter [some (.ref (0 + 1)), some (.int (nI n))] (by decide) (fun _ => rfl) (fun _ => Nat.le_of_ble_eq_true rfl) ?_
  refine pv_iload_n d_O_restart_0 rfl rfl ?_
  refine pv_callS1I d_O_restart_1 (k_O_isNode hn ?_) sb_O_isNode wm_O_39 ws_O_isNode (by decide) (by decide) (Nat.le_of_ble_eq_true rfl) (by decide) (by decide)
  first | refine pv_ifN_eq 19 (by decide) d_O_restart_4 (by first | assumption | omega) (fun h4 => ?_) (fun h4 => ?_) | refine pv_if_eq 19 (by decide) d_O_restart_4 (fun h4 => ?_) (fun h4 => ?_)
  · refine pv_iconst d_O_restart_19 (nI 0) (by decide) ?_
    refine pv_zret d_O_restart_20 (by first | rfl | decide) ?_
    exact absurd h4 (by decide)
  · refine pv_aload_n d_O_restart_7 rfl rfl ?_
    refine gO_nodes d_O_restart_8 ff_O_11 ?_
    refine pv_iload_n d_O_restart_11 rfl rfl ?_
    refine l_nodes d_O_restart_12 (by first | assumption | omega) ?_
    refine pv_callV0I d_O_restart_13 (k_N_isUp hn ?_) sb_N_isUp wm_O_43 (gx_N (by first | assumption | omega)) rfl ⟨wi_N_isUp, we_N_isUp⟩ (by decide) (by decide) (Nat.le_of_ble_eq_true rfl) (by decide) (by decide)
    have hbb := b2_lt (decide (σ 1 n ≠ 0))
    first | refine pv_ifN_eq 21 (by decide) d_O_restart_16 (by first | assumption | omega) (fun h16 => ?_) (fun h16 => ?_) | refine pv_if_eq 21 (by decide) d_O_restart_16 (fun h16 => ?_) (fun h16 => ?_)
    · refine pv_aload_n d_O_restart_21 rfl rfl ?_
      refine pv_iconst d_O_restart_22 (nI 1) (by decide) ?_
      refine pv_iload_n d_O_restart_23 rfl rfl ?_
      first | refine pv_ishl1 d_O_restart_24 (by omega) ?_ | refine pv_ishl d_O_restart_24 ?_
      refine pv_callV1V d_O_restart_25 (k_O_enterNewRing hb h0 (Nat.pow_lt_pow_right (by decide) hn) ?_) sb_O_enterNewRing wm_O_36 gx_O rfl ⟨wi_O_enterNewRing, we_O_enterNewRing⟩ (by decide) (by decide) (Nat.le_of_ble_eq_true rfl) (by decide) (by decide)
      refine pv_iconst d_O_restart_28 (nI 1) (by decide) ?_
      refine pv_zret d_O_restart_29 (by first | rfl | decide) ?_
      rw [a_restart, if_pos (Decidable.not_not.mp (of_decide_eq_false (b2_0.mp h16)))] at k
      exact k
    · refine pv_iconst d_O_restart_19 (nI 0) (by decide) ?_
      refine pv_zret d_O_restart_20 (by first | rfl | decide) ?_
      rw [a_restart, if_neg (of_decide_eq_true (b2_n0.mp h16))] at k
      exact k

set_option maxRecDepth 100000 in
set_option maxHeartbeats 4000000 in
theorem k_O_place_no {post : Int32 → List va_E → Prop} {x y : Int32} (h : x < 0 ∨ nI 5 ≤ x) (k : post (nI 0) (memX σ ++ ρ)) : pv_M l D ty base b 1 0 0 (fun _ => True) y_O_place c_O_place 3 (some .boolean) [.ref (0 + 1), .int x, .int y] (memX σ ++ ρ) (pv_QI D ty base b post) := by
  refine pv_enter [some (.ref (0 + 1)), some (.int x), some (.int y)] (by decide) (fun _ => rfl) (fun _ => Nat.le_of_ble_eq_true rfl) ?_
  refine pv_iload_n d_O_place_0 rfl rfl ?_
  refine pv_callS1I d_O_place_1 (k_O_isNode_no h ?_) sb_O_isNode wm_O_39 ws_O_isNode (by decide) (by decide) (Nat.le_of_ble_eq_true rfl) (by decide) (by decide)
  first | refine pv_ifN_eq 16 (by decide) d_O_place_4 (by first | assumption | omega) (fun h4 => ?_) (fun h4 => ?_) | refine pv_if_eq 16 (by decide) d_O_place_4 (fun h4 => ?_) (fun h4 => ?_)
  · refine pv_iconst d_O_place_16 (nI 0) (by decide) ?_
    refine pv_zret d_O_place_17 (by first | rfl | decide) ?_
    exact k
  · exact absurd rfl h4

set_option maxRecDepth 100000 in
set_option maxHeartbeats 4000000 in
theorem k_O_place_out {post : Int32 → List va_E → Prop} {n : Nat} {y : Int32} (hn : n < 5) (hy : y < 0 ∨ nI 3 ≤ y) (k : post (nI 0) (memX σ ++ ρ)) : pv_M l D ty base b 1 0 0 (fun _ => True) y_O_place c_O_place 3 (some .boolean) [.ref (0 + 1), .int (nI n), .int y] (memX σ ++ ρ) (pv_QI D ty base b post) := by
  refine pv_enter [some (.ref (0 + 1)), some (.int (nI n)), some (.int y)] (by decide) (fun _ => rfl) (fun _ => Nat.le_of_ble_eq_true rfl) ?_
  refine pv_iload_n d_O_place_0 rfl rfl ?_
  refine pv_callS1I d_O_place_1 (k_O_isNode hn ?_) sb_O_isNode wm_O_39 ws_O_isNode (by decide) (by decide) (Nat.le_of_ble_eq_true rfl) (by decide) (by decide)
  first | refine pv_ifN_eq 16 (by decide) d_O_place_4 (by first | assumption | omega) (fun h4 => ?_) (fun h4 => ?_) | refine pv_if_eq 16 (by decide) d_O_place_4 (fun h4 => ?_) (fun h4 => ?_)
  · refine pv_iconst d_O_place_16 (nI 0) (by decide) ?_
    refine pv_zret d_O_place_17 (by first | rfl | decide) ?_
    exact absurd h4 (by decide)
  · refine pv_iload_n d_O_place_7 rfl rfl ?_
    refine pv_if_lt 16 (by decide) d_O_place_8 (fun h8 => ?_) (fun h8 => ?_)
    · refine pv_iconst d_O_place_16 (nI 0) (by decide) ?_
      refine pv_zret d_O_place_17 (by first | rfl | decide) ?_
      exact k
    · refine pv_iload_n d_O_place_11 rfl rfl ?_
      refine pv_iconst d_O_place_12 (nI 3) (by decide) ?_
      first | refine pv_icmpN_lt 18 (by decide) d_O_place_13 (by first | assumption | omega) (by first | assumption | omega) (fun h13 => ?_) (fun h13 => ?_) | refine pv_icmp_lt 18 (by decide) d_O_place_13 (fun h13 => ?_) (fun h13 => ?_)
      · exact absurd hy (by intro q; rcases q with q | q
                            · exact h8 q
                            · exact absurd h13 (Int32.not_lt.mpr q))
      · refine pv_iconst d_O_place_16 (nI 0) (by decide) ?_
        refine pv_zret d_O_place_17 (by first | rfl | decide) ?_
        exact k

set_option maxRecDepth 100000 in
set_option maxHeartbeats 4000000 in
theorem k_O_place {post : Int32 → List va_E → Prop} {n j : Nat} (hn : n < 5) (hj : j < 3) (k : post (nI 1) (memX (sU σ 5 n j) ++ ρ)) : pv_M l D ty base b 1 0 0 (fun _ => True) y_O_place c_O_place 3 (some .boolean) [.ref (0 + 1), .int (nI n), .int (nI j)] (memX σ ++ ρ) (pv_QI D ty base b post) := by
  refine pv_enter [some (.ref (0 + 1)), some (.int (nI n)), some (.int (nI j))] (by decide) (fun _ => rfl) (fun _ => Nat.le_of_ble_eq_true rfl) ?_
  refine pv_iload_n d_O_place_0 rfl rfl ?_
  refine pv_callS1I d_O_place_1 (k_O_isNode hn ?_) sb_O_isNode wm_O_39 ws_O_isNode (by decide) (by decide) (Nat.le_of_ble_eq_true rfl) (by decide) (by decide)
  first | refine pv_ifN_eq 16 (by decide) d_O_place_4 (by first | assumption | omega) (fun h4 => ?_) (fun h4 => ?_) | refine pv_if_eq 16 (by decide) d_O_place_4 (fun h4 => ?_) (fun h4 => ?_)
  · refine pv_iconst d_O_place_16 (nI 0) (by decide) ?_
    refine pv_zret d_O_place_17 (by first | rfl | decide) ?_
    exact absurd h4 (by decide)
  · refine pv_iload_n d_O_place_7 rfl rfl ?_
    refine pv_if_lt 16 (by decide) d_O_place_8 (fun h8 => ?_) (fun h8 => ?_)
    · refine pv_iconst d_O_place_16 (nI 0) (by decide) ?_
      refine pv_zret d_O_place_17 (by first | rfl | decide) ?_
      exact absurd h8 (nI_pos (by omega))
    · refine pv_iload_n d_O_place_11 rfl rfl ?_
      refine pv_iconst d_O_place_12 (nI 3) (by decide) ?_
      first | refine pv_icmpN_lt 18 (by decide) d_O_place_13 (by first | assumption | omega) (by first | assumption | omega) (fun h13 => ?_) (fun h13 => ?_) | refine pv_icmp_lt 18 (by decide) d_O_place_13 (fun h13 => ?_) (fun h13 => ?_)
      · refine pv_aload_n d_O_place_18 rfl rfl ?_
        refine gO_nodes d_O_place_19 ff_O_11 ?_
        refine pv_iload_n d_O_place_22 rfl rfl ?_
        refine l_nodes d_O_place_23 (by first | assumption | omega) ?_
        refine pv_iload_n d_O_place_24 rfl rfl ?_
        refine pN_area d_O_place_25 ff_O_96 (by first | assumption | omega) ?_
        refine pv_iconst d_O_place_28 (nI 1) (by decide) ?_
        refine pv_zret d_O_place_29 (by first | rfl | decide) ?_
        exact k
      · refine pv_iconst d_O_place_16 (nI 0) (by decide) ?_
        refine pv_zret d_O_place_17 (by first | rfl | decide) ?_
        omega

set_option maxRecDepth 100000 in
set_option maxHeartbeats 4000000 in
theorem k_O_deafen_no {post : Int32 → List va_E → Prop} {x y : Int32} (h : x < 0 ∨ nI 5 ≤ x) (k : post (nI 0) (memX σ ++ ρ)) : pv_M l D ty base b 2 0 0 (fun _ => True) y_O_deafen c_O_deafen 3 (some .boolean) [.ref (0 + 1), .int x, .int y] (memX σ ++ ρ) (pv_QI D ty base b post) := by
  refine pv_enter [some (.ref (0 + 1)), some (.int x), some (.int y)] (by decide) (fun _ => rfl) (fun _ => Nat.le_of_ble_eq_true rfl) ?_
  refine pv_aload_n d_O_deafen_0 rfl rfl ?_
  refine pv_iload_n d_O_deafen_1 rfl rfl ?_
  refine pv_callV1I d_O_deafen_2 (k_O_isUpNode_no h ?_) sb_O_isUpNode wm_O_106 gx_O rfl ⟨wi_O_isUpNode, we_O_isUpNode⟩ (by decide) (by decide) (Nat.le_of_ble_eq_true rfl) (by decide) (by decide)
  first | refine pv_ifN_eq 18 (by decide) d_O_deafen_5 (by first | assumption | omega) (fun h5 => ?_) (fun h5 => ?_) | refine pv_if_eq 18 (by decide) d_O_deafen_5 (fun h5 => ?_) (fun h5 => ?_)
  · refine pv_iconst d_O_deafen_18 (nI 0) (by decide) ?_
    refine pv_zret d_O_deafen_19 (by first | rfl | decide) ?_
    exact k
  · exact absurd rfl h5

set_option maxRecDepth 100000 in
set_option maxHeartbeats 4000000 in
theorem k_O_deafen_out {post : Int32 → List va_E → Prop} {n : Nat} {y : Int32} (hn : n < 5) (hy : σ 1 n = 0 ∨ y < 0 ∨ nI 20 < y) (k : post (nI 0) (memX σ ++ ρ)) : pv_M l D ty base b 2 0 0 (fun _ => True) y_O_deafen c_O_deafen 3 (some .boolean) [.ref (0 + 1), .int (nI n), .int y] (memX σ ++ ρ) (pv_QI D ty base b post) := by
  refine pv_enter [some (.ref (0 + 1)), some (.int (nI n)), some (.int y)] (by decide) (fun _ => rfl) (fun _ => Nat.le_of_ble_eq_true rfl) ?_
  refine pv_aload_n d_O_deafen_0 rfl rfl ?_
  refine pv_iload_n d_O_deafen_1 rfl rfl ?_
  refine pv_callV1I d_O_deafen_2 (k_O_isUpNode hn ?_) sb_O_isUpNode wm_O_106 gx_O rfl ⟨wi_O_isUpNode, we_O_isUpNode⟩ (by decide) (by decide) (Nat.le_of_ble_eq_true rfl) (by decide) (by decide)
  have hbb := b2_lt (decide (σ 1 n ≠ 0))
  first | refine pv_ifN_eq 18 (by decide) d_O_deafen_5 (by first | assumption | omega) (fun h5 => ?_) (fun h5 => ?_) | refine pv_if_eq 18 (by decide) d_O_deafen_5 (fun h5 => ?_) (fun h5 => ?_)
  · refine pv_iconst d_O_deafen_18 (nI 0) (by decide) ?_
    refine pv_zret d_O_deafen_19 (by first | rfl | decide) ?_
    exact k
  · refine pv_iload_n d_O_deafen_8 rfl rfl ?_
    refine pv_if_lt 18 (by decide) d_O_deafen_9 (fun h9 => ?_) (fun h9 => ?_)
    · refine pv_iconst d_O_deafen_18 (nI 0) (by decide) ?_
      refine pv_zret d_O_deafen_19 (by first | rfl | decide) ?_
      exact k
    · refine pv_iload_n d_O_deafen_12 rfl rfl ?_
      refine pv_bipush d_O_deafen_13 (nI 20) (by decide) ?_
      first | refine pv_icmpN_le 20 (by decide) d_O_deafen_15 (by first | assumption | omega) (by first | assumption | omega) (fun h15 => ?_) (fun h15 => ?_) | refine pv_icmp_le 20 (by decide) d_O_deafen_15 (fun h15 => ?_) (fun h15 => ?_)
      · exact absurd hy (by intro q; rcases q with q | q | q
                            · exact (of_decide_eq_true (b2_n0.mp h5)) q
                            · exact h9 q
                            · exact absurd h15 (Int32.not_le.mpr q))
      · refine pv_iconst d_O_deafen_18 (nI 0) (by decide) ?_
        refine pv_zret d_O_deafen_19 (by first | rfl | decide) ?_
        exact k

set_option maxRecDepth 100000 in
set_option maxHeartbeats 4000000 in
theorem k_O_deafen {post : Int32 → List va_E → Prop} {n j : Nat} (hn : n < 5) (hu : σ 1 n ≠ 0) (hj : j ≤ 20) (k : post (nI 1) (memX (sU σ 8 n j) ++ ρ)) : pv_M l D ty base b 2 0 0 (fun _ => True) y_O_deafen c_O_deafen 3 (some .boolean) [.ref (0 + 1), .int (nI n), .int (nI j)] (memX σ ++ ρ) (pv_QI D ty base b post) := by
  refine pv_enter [some (.ref (0 + 1)), some (.int (nI n)), some (.int (nI j))] (by decide) (fun _ => rfl) (fun _ => Nat.le_of_ble_eq_true rfl) ?_
  refine pv_aload_n d_O_deafen_0 rfl rfl ?_
  refine pv_iload_n d_O_deafen_1 rfl rfl ?_
  refine pv_callV1I d_O_deafen_2 (k_O_isUpNode hn ?_) sb_O_isUpNode wm_O_106 gx_O rfl ⟨wi_O_isUpNode, we_O_isUpNode⟩ (by decide) (by decide) (Nat.le_of_ble_eq_true rfl) (by decide) (by decide)
  have hbb := b2_lt (decide (σ 1 n ≠ 0))
  first | refine pv_ifN_eq 18 (by decide) d_O_deafen_5 (by first | assumption | omega) (fun h5 => ?_) (fun h5 => ?_) | refine pv_if_eq 18 (by decide) d_O_deafen_5 (fun h5 => ?_) (fun h5 => ?_)
  · refine pv_iconst d_O_deafen_18 (nI 0) (by decide) ?_
    refine pv_zret d_O_deafen_19 (by first | rfl | decide) ?_
    exact absurd (Decidable.not_not.mp (of_decide_eq_false (b2_0.mp h5))) hu
  · refine pv_iload_n d_O_deafen_8 rfl rfl ?_
    refine pv_if_lt 18 (by decide) d_O_deafen_9 (fun h9 => ?_) (fun h9 => ?_)
    · refine pv_iconst d_O_deafen_18 (nI 0) (by decide) ?_
      refine pv_zret d_O_deafen_19 (by first | rfl | decide) ?_
      exact absurd h9 (nI_pos (by omega))
    · refine pv_iload_n d_O_deafen_12 rfl rfl ?_
      refine pv_bipush d_O_deafen_13 (nI 20) (by decide) ?_
      first | refine pv_icmpN_le 20 (by decide) d_O_deafen_15 (by first | assumption | omega) (by first | assumption | omega) (fun h15 => ?_) (fun h15 => ?_) | refine pv_icmp_le 20 (by decide) d_O_deafen_15 (fun h15 => ?_) (fun h15 => ?_)
      · refine pv_aload_n d_O_deafen_20 rfl rfl ?_
        refine gO_nodes d_O_deafen_21 ff_O_11 ?_
        refine pv_iload_n d_O_deafen_24 rfl rfl ?_
        refine l_nodes d_O_deafen_25 (by first | assumption | omega) ?_
        refine pv_iload_n d_O_deafen_26 rfl rfl ?_
        refine pN_deafness d_O_deafen_27 ff_O_112 (by first | assumption | omega) ?_
        refine pv_iconst d_O_deafen_30 (nI 1) (by decide) ?_
        refine pv_zret d_O_deafen_31 (by first | rfl | decide) ?_
        exact k
      · refine pv_iconst d_O_deafen_18 (nI 0) (by decide) ?_
        refine pv_zret d_O_deafen_19 (by first | rfl | decide) ?_
        omega

set_option maxRecDepth 100000 in
set_option maxHeartbeats 4000000 in
theorem k_O_drop_no {post : Int32 → List va_E → Prop} {x : Int32} (h : x < 0 ∨ nI 5 ≤ x) (k : post (nI 0) (memX σ ++ ρ)) : pv_M l D ty base b 1 0 0 (fun _ => True) y_O_drop c_O_drop 3 (some .boolean) [.ref (0 + 1), .int x] (memX σ ++ ρ) (pv_QI D ty base b post) := by
  refine pv_enter [some (.ref (0 + 1)), some (.int x), none] (by decide) (fun _ => rfl) (fun _ => Nat.le_of_ble_eq_true rfl) ?_
  refine pv_iload_n d_O_drop_0 rfl rfl ?_
  refine pv_callS1I d_O_drop_1 (k_O_isNode_no h ?_) sb_O_isNode wm_O_39 ws_O_isNode (by decide) (by decide) (Nat.le_of_ble_eq_true rfl) (by decide) (by decide)
  first | refine pv_ifN_ne 9 (by decide) d_O_drop_4 (by first | assumption | omega) (fun h4 => ?_) (fun h4 => ?_) | refine pv_if_ne 9 (by decide) d_O_drop_4 (fun h4 => ?_) (fun h4 => ?_)
  · exact absurd h4 (by decide)
  · refine pv_iconst d_O_drop_7 (nI 0) (by decide) ?_
    refine pv_zret d_O_drop_8 (by first | rfl | decide) ?_
    exact k

set_option maxRecDepth 100000 in
set_option maxHeartbeats 4000000 in
theorem k_O_drop {post : Int32 → List va_E → Prop} {n : Nat} (hn : n < 5) (hb : bX σ) (k : post (a_drop σ n).1 (memX (a_drop σ n).2 ++ ρ)) : pv_M l D ty base b 1 0 0 (fun _ => True) y_O_drop c_O_drop 3 (some .boolean) [.ref (0 + 1), .int (nI n)] (memX σ ++ ρ) (pv_QI D ty base b post) := by
  refine pv_enter [some (.ref (0 + 1)), some (.int (nI n)), none] (by decide) (fun _ => rfl) (fun _ => Nat.le_of_ble_eq_true rfl) ?_
  refine pv_iload_n d_O_drop_0 rfl rfl ?_
  refine pv_callS1I d_O_drop_1 (k_O_isNode hn ?_) sb_O_isNode wm_O_39 ws_O_isNode (by decide) (by decide) (Nat.le_of_ble_eq_true rfl) (by decide) (by decide)
  first | refine pv_ifN_ne 9 (by decide) d_O_drop_4 (by first | assumption | omega) (fun h4 => ?_) (fun h4 => ?_) | refine pv_if_ne 9 (by decide) d_O_drop_4 (fun h4 => ?_) (fun h4 => ?_)
  · refine pv_aload_n d_O_drop_9 rfl rfl ?_
    have hb1 : σ 1 n < 7 := hb 1 n
    refine gO_nodes d_O_drop_10 ff_O_11 ?_
    refine pv_iload_n d_O_drop_13 rfl rfl ?_
    refine l_nodes d_O_drop_14 (by first | assumption | omega) ?_
    refine gN_ring d_O_drop_15 ff_O_60 (by first | assumption | omega) ?_
    refine pv_splitX (fun hnull => ?_) (fun rr hring => ?_)
    · refine pv_a0st2 d_O_drop_18 rfl (by decide) ?_
      refine pv_a0load_n d_O_drop_19 rfl rfl ?_
      refine pv_ifnullN 30 (by decide) d_O_drop_20 ?_
      refine pv_iconst d_O_drop_30 (nI 0) (by decide) ?_
      refine pv_zret d_O_drop_31 (by first | rfl | decide) ?_
      simp only [a_drop, hnull] at k
      exact k
    · refine pv_ast2 d_O_drop_18 rfl (by decide) ?_
      refine pv_aload_n d_O_drop_19 rfl rfl ?_
      refine pv_ifnull d_O_drop_20 ?_
      refine pv_aload_n d_O_drop_23 rfl rfl ?_
      refine pv_callV0I d_O_drop_24 (k_R_isTokenLost (by first | assumption | omega) hb ?_) sb_R_isTokenLost wm_O_115 (gx_R (by first | assumption | omega)) rfl ⟨wi_R_isTokenLost, we_R_isTokenLost⟩ (by decide) (by decide) (Nat.le_of_ble_eq_true rfl) (by decide) (by decide)
      have hbb := b2_lt (decide (σ 12 rr = 0))
      first | refine pv_ifN_eq 32 (by decide) d_O_drop_27 (by first | assumption | omega) (fun h27 => ?_) (fun h27 => ?_) | refine pv_if_eq 32 (by decide) d_O_drop_27 (fun h27 => ?_) (fun h27 => ?_)
      · refine pv_aload_n d_O_drop_32 rfl rfl ?_
        refine pv_iconst d_O_drop_33 (-1) (by decide) ?_
        refine pR_tokenAtM d_O_drop_34 ff_O_64 (by first | assumption | omega) ?_
        refine pv_iconst d_O_drop_37 (nI 1) (by decide) ?_
        refine pv_zret d_O_drop_38 (by first | rfl | decide) ?_
        simp only [a_drop, hring, if_neg (of_decide_eq_false (b2_0.mp h27))] at k
        exact k
      · refine pv_iconst d_O_drop_30 (nI 0) (by decide) ?_
        refine pv_zret d_O_drop_31 (by first | rfl | decide) ?_
        simp only [a_drop, hring, if_pos (of_decide_eq_true (b2_n0.mp h27))] at k
        exact k
  · refine pv_iconst d_O_drop_7 (nI 0) (by decide) ?_
    refine pv_zret d_O_drop_8 (by first | rfl | decide) ?_
    exact absurd h4 (by decide)

set_option maxRecDepth 100000 in
set_option maxHeartbeats 4000000 in
theorem k_O_visit_no {post : Int32 → List va_E → Prop} {x : Int32} (h : x < 0 ∨ nI 5 ≤ x) (k : post (-3) (memX σ ++ ρ)) : pv_M l D ty base b 1 0 0 (fun _ => True) y_O_visit c_O_visit 6 (some .int) [.ref (0 + 1), .int x] (memX σ ++ ρ) (pv_QI D ty base b post) := by
  refine pv_enter [some (.ref (0 + 1)), some (.int x), none, none, none, none] (by decide) (fun _ => rfl) (fun _ => Nat.le_of_ble_eq_true rfl) ?_
  refine pv_iload_n d_O_visit_0 rfl rfl ?_
  refine pv_callS1I d_O_visit_1 (k_O_isNode_no h ?_) sb_O_isNode wm_O_39 ws_O_isNode (by decide) (by decide) (Nat.le_of_ble_eq_true rfl) (by decide) (by decide)
  first | refine pv_ifN_ne 10 (by decide) d_O_visit_4 (by first | assumption | omega) (fun h4 => ?_) (fun h4 => ?_) | refine pv_if_ne 10 (by decide) d_O_visit_4 (fun h4 => ?_) (fun h4 => ?_)
  · exact absurd h4 (by decide)
  · refine pv_bipush d_O_visit_7 (-3) (by decide) ?_
    refine pv_iret d_O_visit_9 ?_
    exact k

set_option maxRecDepth 100000 in
set_option maxHeartbeats 4000000 in
theorem k_O_visit {post : Int32 → List va_E → Prop} {n : Nat} (hn : n < 5) (hb : bX σ) (h0 : σ 0 0 + 1 < 600) (k : post (a_visit σ n).1 (memX (a_visit σ n).2 ++ ρ)) : pv_M l D ty base b 5 0 0 (fun _ => True) y_O_visit c_O_visit 6 (some .int) [.ref (0 + 1), .int (nI n)] (memX σ ++ ρ) (pv_QI D ty base b post) := by
  refine pv_enter [some (.ref (0 + 1)), some (.int (nI n)), none, none, none, none] (by decide) (fun _ => rfl) (fun _ => Nat.le_of_ble_eq_true rfl) ?_
  refine pv_iload_n d_O_visit_0 rfl rfl ?_
  refine pv_callS1I d_O_visit_1 (k_O_isNode hn ?_) sb_O_isNode wm_O_39 ws_O_isNode (by decide) (by decide) (Nat.le_of_ble_eq_true rfl) (by decide) (by decide)
  first | refine pv_ifN_ne 10 (by decide) d_O_visit_4 (by first | assumption | omega) (fun h4 => ?_) (fun h4 => ?_) | refine pv_if_ne 10 (by decide) d_O_visit_4 (fun h4 => ?_) (fun h4 => ?_)
  · refine pv_aload_n d_O_visit_10 rfl rfl ?_
    have hb1 : σ 1 n < 7 := hb 1 n
    refine gO_nodes d_O_visit_11 ff_O_11 ?_
    refine pv_iload_n d_O_visit_14 rfl rfl ?_
    refine l_nodes d_O_visit_15 (by first | assumption | omega) ?_
    refine pv_ast2 d_O_visit_16 rfl (by decide) ?_
    refine pv_aload_n d_O_visit_17 rfl rfl ?_
    refine gN_ring d_O_visit_18 ff_O_60 (by first | assumption | omega) ?_
    refine pv_splitX (fun hnull => ?_) (fun rr hring => ?_)
    · refine pv_a0st3 d_O_visit_21 rfl (by decide) ?_
      refine pv_a0load_n d_O_visit_22 rfl rfl ?_
      refine pv_ifnonnullN d_O_visit_23 ?_
      refine pv_bipush d_O_visit_26 (-2) (by decide) ?_
      refine pv_iret d_O_visit_28 ?_
      simp only [a_visit, hnull] at k
      exact k
    · refine pv_ast3 d_O_visit_21 rfl (by decide) ?_
      refine pv_aload_n d_O_visit_22 rfl rfl ?_
      refine pv_ifnonnull 29 (by decide) d_O_visit_23 ?_
      refine pv_aload_n d_O_visit_29 rfl rfl ?_
      refine gR_tokenAt d_O_visit_30 ff_O_64 (by first | assumption | omega) ?_
      refine pv_iload_n d_O_visit_33 rfl rfl ?_
      first | refine pv_icmpN_eq 39 (by decide) d_O_visit_34 (by first | assumption | omega) (by first | assumption | omega) (fun h34 => ?_) (fun h34 => ?_) | refine pv_icmp_eq 39 (by decide) d_O_visit_34 (fun h34 => ?_) (fun h34 => ?_)
      · have hr : rr < 6 := by omega
        refine pv_aload_n d_O_visit_39 rfl rfl ?_
        refine pv_aload_n d_O_visit_40 rfl rfl ?_
        refine pv_aload_n d_O_visit_41 rfl rfl ?_
        refine pv_callV2I d_O_visit_42 (k_O_broadcastRequests hn hr hb ?_) sb_O_broadcastRequests wm_O_67 gx_O rfl ⟨wi_O_broadcastRequests, we_O_broadcastRequests⟩ (by decide) (by decide) (Nat.le_of_ble_eq_true rfl) (by decide) (by decide)
        refine pv_ist4 d_O_visit_45 rfl (by decide) ?_
        refine pv_aload_n d_O_visit_47 rfl rfl ?_
        refine pv_aload_n d_O_visit_48 rfl rfl ?_
        refine pv_aload_n d_O_visit_49 rfl rfl ?_
        refine pv_callV2I d_O_visit_50 (k_O_broadcastNew hn hr (bX_rq hb 48 (by decide)) ?_) sb_O_broadcastNew wm_O_71 gx_O rfl ⟨wi_O_broadcastNew, we_O_broadcastNew⟩ (by decide) (by decide) (Nat.le_of_ble_eq_true rfl) (by decide) (by decide)
        refine pv_ist5 d_O_visit_53 rfl (by decide) ?_
        refine pv_aload_n d_O_visit_55 rfl rfl ?_
        refine pv_aload_n d_O_visit_56 rfl rfl ?_
        refine pv_callV1V d_O_visit_57 (k_R_markAndRequest hr hn (bX_s1 hb hn hr) ?_) sb_R_markAndRequest wm_O_74 (gx_R (by first | assumption | omega)) rfl ⟨wi_R_markAndRequest, we_R_markAndRequest⟩ (by decide) (by decide) (Nat.le_of_ble_eq_true rfl) (by decide) (by decide)
        refine pv_aload_n d_O_visit_60 rfl rfl ?_
        refine pv_aload_n d_O_visit_61 rfl rfl ?_
        refine pv_callV0I d_O_visit_62 (k_R_leastMark hr (bX_s2 hb hn hr) ?_) sb_R_leastMark wm_O_78 (gx_R (by first | assumption | omega)) rfl ⟨wi_R_leastMark, we_R_leastMark⟩ (by decide) (by decide) (Nat.le_of_ble_eq_true rfl) (by decide) (by decide)
        refine pN_line d_O_visit_65 ff_O_82 (by first | assumption | omega) ?_
        refine pv_aload_n d_O_visit_68 rfl rfl ?_
        refine pv_aload_n d_O_visit_69 rfl rfl ?_
        refine pv_callV1V d_O_visit_70 (k_O_deliverInRing hr (bX_s3 hb hn hr) ?_) sb_O_deliverInRing wm_O_85 gx_O rfl ⟨wi_O_deliverInRing, we_O_deliverInRing⟩ (by decide) (by decide) (Nat.le_of_ble_eq_true rfl) (by decide) (by decide)
        refine pv_aload_n d_O_visit_73 rfl rfl ?_
        refine pv_iconst d_O_visit_74 (nI 0) (by decide) ?_
        refine pN_timer d_O_visit_75 ff_O_89 (by first | assumption | omega) ?_
        refine pv_aload_n d_O_visit_78 rfl rfl ?_
        refine pv_aload_n d_O_visit_79 rfl rfl ?_
        refine pv_callV1I d_O_visit_80 (k_O_hasStranger hn (bX_s4 hb hn hr) ?_) sb_O_hasStranger wm_O_92 gx_O rfl ⟨wi_O_hasStranger, we_O_hasStranger⟩ (by decide) (by decide) (Nat.le_of_ble_eq_true rfl) (by decide) (by decide)
        have hbb := b2_lt (x_st (v_s4 σ n rr) n 5 0)
        first | refine pv_ifN_eq 97 (by decide) d_O_visit_83 (by first | assumption | omega) (fun h83 => ?_) (fun h83 => ?_) | refine pv_if_eq 97 (by decide) d_O_visit_83 (fun h83 => ?_) (fun h83 => ?_)
        · refine pv_aload_n d_O_visit_97 rfl rfl ?_
          refine pv_aload_n d_O_visit_98 rfl rfl ?_
          refine pv_aload_n d_O_visit_99 rfl rfl ?_
          refine pv_callV2V d_O_visit_100 (k_O_passToken hn hr (bX_s4 hb hn hr) ?_) sb_O_passToken wm_O_102 gx_O rfl ⟨wi_O_passToken, we_O_passToken⟩ (by decide) (by decide) (Nat.le_of_ble_eq_true rfl) (by decide) (by decide)
          refine pv_iload d_O_visit_103 rfl ?_
          refine pv_iload d_O_visit_105 rfl ?_
          first | refine pv_iaddN d_O_visit_107 ?_ | refine pv_iadd d_O_visit_107 ?_
          refine pv_iret d_O_visit_108 ?_
          have h9 := (tk_eq (Nat.lt_of_lt_of_le (hb 12 rr) (by decide)) (by omega)).mp h34
          simp only [a_visit, hring, if_pos h9] at k
          have h84 : b2 (x_st (v_s4 σ n rr) n 5 0) = 0 := h83
          rw [v_s5, if_neg (by rw [b2_0.mp h84]; decide)] at k
          exact k
        · refine pv_aload_n d_O_visit_86 rfl rfl ?_
          refine pv_aload_n d_O_visit_87 rfl rfl ?_
          refine gN_area d_O_visit_88 ff_O_96 (by first | assumption | omega) ?_
          refine pv_callV1V d_O_visit_91 (k_O_formAnew (Nat.lt_of_lt_of_le (bX_s4 hb hn hr 5 n) (by decide)) (bX_s4 hb hn hr) (by show v_s4 σ n rr 0 0 + 1 < 600; rw [v_s4_ne (Or.inl rfl)]; exact h0) ?_) sb_O_formAnew wm_O_99 gx_O rfl ⟨wi_O_formAnew, we_O_formAnew⟩ (by decide) (by decide) (Nat.le_of_ble_eq_true rfl) (by decide) (by decide)
          refine pv_goto 103 (by decide) d_O_visit_94 ?_
          refine pv_iload d_O_visit_103 rfl ?_
          refine pv_iload d_O_visit_105 rfl ?_
          first | refine pv_iaddN d_O_visit_107 ?_ | refine pv_iadd d_O_visit_107 ?_
          refine pv_iret d_O_visit_108 ?_
          have h9 := (tk_eq (Nat.lt_of_lt_of_le (hb 12 rr) (by decide)) (by omega)).mp h34
          simp only [a_visit, hring, if_pos h9] at k
          have h84 : ¬ b2 (x_st (v_s4 σ n rr) n 5 0) = 0 := h83
          rw [v_s5, if_pos (b2_n0.mp h84)] at k
          exact k
      · refine pv_iconst d_O_visit_37 (-1) (by decide) ?_
        refine pv_iret d_O_visit_38 ?_
        have h9 := mt (tk_eq (Nat.lt_of_lt_of_le (hb 12 rr) (by decide)) (by omega)).mpr h34
        simp only [a_visit, hring, if_neg h9] at k
        exact k
  · refine pv_bipush d_O_visit_7 (-3) (by decide) ?_
    refine pv_iret d_O_visit_9 ?_
    exact absurd h4 (by decide)

end PUB2
