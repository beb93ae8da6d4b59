/-! 14.own: what the private methods of RotatingTokenGroup do -/
section OWN
variable {l : Launch} {D : va_G} {ty : Nat → ClassId} {base b : Nat} {σ : Nat → Nat → Nat} {ρ ξ : List va_E}
variable {M : List va_E}
set_option maxRecDepth 100000 in
set_option maxHeartbeats 4000000 in
theorem k_O_nodesOf {post : Int32 → List va_E → Prop} {r : Nat} (k : post (nI (x_nodes σ r 5)) (memX σ ++ ρ)) : pv_M l D ty base b 0 0 0 (fun _ => True) y_O_nodesOf c_O_nodesOf 4 (some .int) [.ref (0 + 1), .ref (pR r + 1)] (memX σ ++ ρ) (pv_QI D ty base b post) := by
  refine pv_enter [some (.ref (0 + 1)), some (.ref (pR r + 1)), none, none] (by decide) (fun _ => rfl) (fun _ => Nat.le_of_ble_eq_true rfl) ?_
  have loop : ∀ (j i : Nat), i + j = 5 → pv_V l D ty base b c_O_nodesOf 4 y_O_nodesOf.cls (some .int) y_O_nodesOf.name (pv_rm 0 0 0) (fun _ => True) (pv_Qf base 0 0 (pv_QI D ty base b post)) 0 0 4 [some (.ref (0 + 1)), some (.ref (pR r + 1)), some (.int (nI (x_nodes σ r i))), some (.int (nI (i)))] [] (memX σ ++ ρ) := by
    intro j
    induction j with
    | zero =>
      intro i hi
      refine pv_iload_n d_O_nodesOf_4 rfl rfl ?_
      refine pv_iconst d_O_nodesOf_5 (nI 5) (by decide) ?_
      first | refine pv_icmpN_ge 34 (by decide) d_O_nodesOf_6 (by first | assumption | omega) (by first | assumption | omega) (fun h6 => ?_) (fun h6 => ?_) | refine pv_icmp_ge 34 (by decide) d_O_nodesOf_6 (fun h6 => ?_) (fun h6 => ?_)
      · refine pv_iload_n d_O_nodesOf_34 rfl rfl ?_
        refine pv_iret d_O_nodesOf_35 ?_
        obtain rfl : i = 5 := by omega
        exact k
      · omega
    | succ j ih =>
      intro i hi
      refine pv_iload_n d_O_nodesOf_4 rfl rfl ?_
      refine pv_iconst d_O_nodesOf_5 (nI 5) (by decide) ?_
      first | refine pv_icmpN_ge 34 (by decide) d_O_nodesOf_6 (by first | assumption | omega) (by first | assumption | omega) (fun h6 => ?_) (fun h6 => ?_) | refine pv_icmp_ge 34 (by decide) d_O_nodesOf_6 (fun h6 => ?_) (fun h6 => ?_)
      · omega
      · refine pv_aload_n d_O_nodesOf_9 rfl rfl ?_
        refine gO_nodes d_O_nodesOf_10 ff_O_11 ?_
        refine pv_iload_n d_O_nodesOf_13 rfl rfl ?_
        refine l_nodes d_O_nodesOf_14 (by first | assumption | omega) ?_
        refine gN_ring d_O_nodesOf_15 ff_O_60 (by first | assumption | omega) ?_
        refine pv_aload_n d_O_nodesOf_18 rfl rfl ?_
        refine pv_acmp_ne (y := some _) 28 (by decide) d_O_nodesOf_19 (fun h19 => ?_) (fun h19 => ?_)
        · refine pv_inc3 d_O_nodesOf_28 rfl (by decide) ?_
          refine pv_goto 4 (by decide) d_O_nodesOf_31 ?_
          have hq := ih (i + 1) (by omega)
          rw [x_nodes_s] at hq
          rw [if_neg (fun z => h19 (xp_some.mpr z))] at hq
          exact hq
        · refine pv_iload_n d_O_nodesOf_22 rfl rfl ?_
          refine pv_iconst d_O_nodesOf_23 (nI 1) (by decide) ?_
          refine pv_iload_n d_O_nodesOf_24 rfl rfl ?_
          first | refine pv_ishl1 d_O_nodesOf_25 (by omega) ?_ | refine pv_ishl d_O_nodesOf_25 ?_
          first | refine pv_iorN d_O_nodesOf_26 ?_ | refine pv_ior d_O_nodesOf_26 ?_
          refine pv_ist2 d_O_nodesOf_27 rfl (by decide) ?_
          refine pv_inc3 d_O_nodesOf_28 rfl (by decide) ?_
          refine pv_goto 4 (by decide) d_O_nodesOf_31 ?_
          have hq := ih (i + 1) (by omega)
          rw [x_nodes_s] at hq
          rw [if_pos (xp_some.mp h19)] at hq
          exact hq
  refine pv_iconst d_O_nodesOf_0 (nI 0) (by decide) ?_
  refine pv_ist2 d_O_nodesOf_1 rfl (by decide) ?_
  refine pv_iconst d_O_nodesOf_2 (nI 0) (by decide) ?_
  refine pv_ist3 d_O_nodesOf_3 rfl (by decide) ?_
  exact loop 5 0 rfl

set_option maxRecDepth 100000 in
set_option maxHeartbeats 4000000 in
theorem k_O_upNodesIn {post : Int32 → List va_E → Prop} {a : Nat} (ha : a < 2 ^ 31) (hb : bX σ) (k : post (nI (x_upin σ a 5)) (memX σ ++ ρ)) : pv_M l D ty base b 1 0 0 (fun _ => True) y_O_upNodesIn c_O_upNodesIn 4 (some .int) [.ref (0 + 1), .int (nI a)] (memX σ ++ ρ) (pv_QI D ty base b post) := by
  refine pv_enter [some (.ref (0 + 1)), some (.int (nI a)), none, none] (by decide) (fun _ => rfl) (fun _ => Nat.le_of_ble_eq_true rfl) ?_
  have loop : ∀ (j i : Nat), i + j = 5 → pv_V l D ty base b c_O_upNodesIn 4 y_O_upNodesIn.cls (some .int) y_O_upNodesIn.name (pv_rm 1 0 0) (fun _ => True) (pv_Qf base 0 0 (pv_QI D ty base b post)) 0 0 4 [some (.ref (0 + 1)), some (.int (nI (a))), some (.int (nI (x_upin σ a i))), some (.int (nI (i)))] [] (memX σ ++ ρ) := by
    intro j
    induction j with
    | zero =>
      intro i hi
      refine pv_iload_n d_O_upNodesIn_4 rfl rfl ?_
      refine pv_iconst d_O_upNodesIn_5 (nI 5) (by decide) ?_
      first | refine pv_icmpN_ge 46 (by decide) d_O_upNodesIn_6 (by first | assumption | omega) (by first | assumption | omega) (fun h6 => ?_) (fun h6 => ?_) | refine pv_icmp_ge 46 (by decide) d_O_upNodesIn_6 (fun h6 => ?_) (fun h6 => ?_)
      · refine pv_iload_n d_O_upNodesIn_46 rfl rfl ?_
        refine pv_iret d_O_upNodesIn_47 ?_
        obtain rfl : i = 5 := by omega
        exact k
      · omega
    | succ j ih =>
      intro i hi
      refine pv_iload_n d_O_upNodesIn_4 rfl rfl ?_
      refine pv_iconst d_O_upNodesIn_5 (nI 5) (by decide) ?_
      first | refine pv_icmpN_ge 46 (by decide) d_O_upNodesIn_6 (by first | assumption | omega) (by first | assumption | omega) (fun h6 => ?_) (fun h6 => ?_) | refine pv_icmp_ge 46 (by decide) d_O_upNodesIn_6 (fun h6 => ?_) (fun h6 => ?_)
      · omega
      · refine pv_aload_n d_O_upNodesIn_9 rfl rfl ?_
        refine gO_nodes d_O_upNodesIn_10 ff_O_11 ?_
        refine pv_iload_n d_O_upNodesIn_13 rfl rfl ?_
        refine l_nodes d_O_upNodesIn_14 (by first | assumption | omega) ?_
        refine pv_callV0I d_O_upNodesIn_15 (k_N_isUp (by first | assumption | omega) ?_) sb_N_isUp wm_O_43 (gx_N (by first | assumption | omega)) rfl ⟨wi_N_isUp, we_N_isUp⟩ (by decide) (by decide) (Nat.le_of_ble_eq_true rfl) (by decide) (by decide)
        have hbb := b2_lt (decide (σ 1 i ≠ 0))
        have h5 : σ 5 i < 3 := hb 5 i
        first | refine pv_ifN_eq 40 (by decide) d_O_upNodesIn_18 (by first | assumption | omega) (fun h18 => ?_) (fun h18 => ?_) | refine pv_if_eq 40 (by decide) d_O_upNodesIn_18 (fun h18 => ?_) (fun h18 => ?_)
        · refine pv_inc3 d_O_upNodesIn_40 rfl (by decide) ?_
          refine pv_goto 4 (by decide) d_O_upNodesIn_43 ?_
          have hq := ih (i + 1) (by omega)
          rw [x_upin_s] at hq
          rw [if_neg (fun z => (of_decide_eq_false (b2_0.mp h18)) z.1)] at hq
          exact hq
        · refine pv_aload_n d_O_upNodesIn_21 rfl rfl ?_
          refine gO_nodes d_O_upNodesIn_22 ff_O_11 ?_
          refine pv_iload_n d_O_upNodesIn_25 rfl rfl ?_
          refine l_nodes d_O_upNodesIn_26 (by first | assumption | omega) ?_
          refine gN_area d_O_upNodesIn_27 ff_O_96 (by first | assumption | omega) ?_
          refine pv_iload_n d_O_upNodesIn_30 rfl rfl ?_
          first | refine pv_icmpN_ne 40 (by decide) d_O_upNodesIn_31 (by first | assumption | omega) (by first | assumption | omega) (fun h31 => ?_) (fun h31 => ?_) | refine pv_icmp_ne 40 (by decide) d_O_upNodesIn_31 (fun h31 => ?_) (fun h31 => ?_)
          · refine pv_inc3 d_O_upNodesIn_40 rfl (by decide) ?_
            refine pv_goto 4 (by decide) d_O_upNodesIn_43 ?_
            have hq := ih (i + 1) (by omega)
            rw [x_upin_s] at hq
            rw [if_neg (fun z => h31 z.2)] at hq
            exact hq
          · refine pv_iload_n d_O_upNodesIn_34 rfl rfl ?_
            refine pv_iconst d_O_upNodesIn_35 (nI 1) (by decide) ?_
            refine pv_iload_n d_O_upNodesIn_36 rfl rfl ?_
            first | refine pv_ishl1 d_O_upNodesIn_37 (by omega) ?_ | refine pv_ishl d_O_upNodesIn_37 ?_
            first | refine pv_iorN d_O_upNodesIn_38 ?_ | refine pv_ior d_O_upNodesIn_38 ?_
            refine pv_ist2 d_O_upNodesIn_39 rfl (by decide) ?_
            refine pv_inc3 d_O_upNodesIn_40 rfl (by decide) ?_
            refine pv_goto 4 (by decide) d_O_upNodesIn_43 ?_
            have hq := ih (i + 1) (by omega)
            rw [x_upin_s] at hq
            rw [if_pos ⟨of_decide_eq_true (b2_n0.mp h18), h31⟩] at hq
            exact hq
  refine pv_iconst d_O_upNodesIn_0 (nI 0) (by decide) ?_
  refine pv_ist2 d_O_upNodesIn_1 rfl (by decide) ?_
  refine pv_iconst d_O_upNodesIn_2 (nI 0) (by decide) ?_
  refine pv_ist3 d_O_upNodesIn_3 rfl (by decide) ?_
  exact loop 5 0 rfl

set_option maxRecDepth 100000 in
set_option maxHeartbeats 4000000 in
theorem k_O_unusedRing {post : Nat → List va_E → Prop}  (k : post (pR (x_unused σ)) (memX σ ++ ρ)) : pv_M l D ty base b 1 0 0 (fun _ => True) y_O_unusedRing c_O_unusedRing 2 (some (.object "RotatingTokenGroup$Ring")) [.ref (0 + 1)] (memX σ ++ ρ) (pv_QR D ty base b post) := by
  refine pv_enter [some (.ref (0 + 1)), none] (by decide) (fun _ => rfl) (fun _ => Nat.le_of_ble_eq_true rfl) ?_
  have loop : ∀ (j i : Nat), i + j = 5 → post (pR (x_unf σ j i)) (memX σ ++ ρ) → pv_V l D ty base b c_O_unusedRing 2 y_O_unusedRing.cls (some (.object "RotatingTokenGroup$Ring")) y_O_unusedRing.name (pv_rm 1 0 0) (fun _ => True) (pv_Qf base 0 0 (pv_QR D ty base b post)) 0 0 2 [some (.ref (0 + 1)), some (.int (nI (i)))] [] (memX σ ++ ρ) := by
    intro j
    induction j with
    | zero =>
      intro i hi k
      refine pv_iload_n d_O_unusedRing_2 rfl rfl ?_
      refine pv_iconst d_O_unusedRing_3 (nI 5) (by decide) ?_
      first | refine pv_icmpN_ge 33 (by decide) d_O_unusedRing_4 (by first | assumption | omega) (by first | assumption | omega) (fun h4 => ?_) (fun h4 => ?_) | refine pv_icmp_ge 33 (by decide) d_O_unusedRing_4 (fun h4 => ?_) (fun h4 => ?_)
      · refine pv_aload_n d_O_unusedRing_33 rfl rfl ?_
        refine gO_rings d_O_unusedRing_34 ff_O_20 ?_
        refine pv_iconst d_O_unusedRing_37 (nI 5) (by decide) ?_
        refine l_rings d_O_unusedRing_38 (by first | assumption | omega) ?_
        refine pv_aret d_O_unusedRing_39 ?_
        exact k
      · omega
    | succ j ih =>
      intro i hi k
      unfold x_unf at k
      refine pv_iload_n d_O_unusedRing_2 rfl rfl ?_
      refine pv_iconst d_O_unusedRing_3 (nI 5) (by decide) ?_
      first | refine pv_icmpN_ge 33 (by decide) d_O_unusedRing_4 (by first | assumption | omega) (by first | assumption | omega) (fun h4 => ?_) (fun h4 => ?_) | refine pv_icmp_ge 33 (by decide) d_O_unusedRing_4 (fun h4 => ?_) (fun h4 => ?_)
      · omega
      · refine pv_aload_n d_O_unusedRing_7 rfl rfl ?_
        refine pv_aload_n d_O_unusedRing_8 rfl rfl ?_
        refine gO_rings d_O_unusedRing_9 ff_O_20 ?_
        refine pv_iload_n d_O_unusedRing_12 rfl rfl ?_
        refine l_rings d_O_unusedRing_13 (by first | assumption | omega) ?_
        refine pv_callV1I d_O_unusedRing_14 (k_O_nodesOf ?_) sb_O_nodesOf wm_O_204 gx_O rfl ⟨wi_O_nodesOf, we_O_nodesOf⟩ (by decide) (by decide) (Nat.le_of_ble_eq_true rfl) (by decide) (by decide)
        have hbb : x_nodes σ i 5 < 2 ^ 5 := x_nodes_lt 5
        first | refine pv_ifN_ne 27 (by decide) d_O_unusedRing_17 (by first | assumption | omega) (fun h17 => ?_) (fun h17 => ?_) | refine pv_if_ne 27 (by decide) d_O_unusedRing_17 (fun h17 => ?_) (fun h17 => ?_)
        · refine pv_inc1 d_O_unusedRing_27 rfl (by decide) ?_
          refine pv_goto 2 (by decide) d_O_unusedRing_30 ?_
          exact ih (i + 1) (by omega) (by rw [if_neg h17] at k; exact k)
        · refine pv_aload_n d_O_unusedRing_20 rfl rfl ?_
          refine gO_rings d_O_unusedRing_21 ff_O_20 ?_
          refine pv_iload_n d_O_unusedRing_24 rfl rfl ?_
          refine l_rings d_O_unusedRing_25 (by first | assumption | omega) ?_
          refine pv_aret d_O_unusedRing_26 ?_
          rw [if_pos h17] at k
          exact k
  refine pv_iconst d_O_unusedRing_0 (nI 0) (by decide) ?_
  refine pv_ist1 d_O_unusedRing_1 rfl (by decide) ?_
  exact loop 5 0 rfl k

set_option maxRecDepth 100000 in
set_option maxHeartbeats 4000000 in
theorem k_O_enterNewRing {post : List va_E → Prop} {mem : Nat} (hb : bX σ) (h0 : σ 0 0 + 1 < 600) (hm : mem < 32) (k : post (memX (x_enterNew σ mem) ++ ρ)) : pv_M l D ty base b 3 0 0 (fun _ => True) y_O_enterNewRing c_O_enterNewRing 4 none [.ref (0 + 1), .int (nI mem)] (memX σ ++ ρ) (pv_QV D ty base b post) := by
  refine pv_enter [some (.ref (0 + 1)), some (.int (nI mem)), none, none] (by decide) (fun _ => rfl) (fun _ => Nat.le_of_ble_eq_true rfl) ?_
  have hu := x_unused_lt (σ := σ)
  have hbr : bX (x_ring (sU σ 0 0 (σ 0 0 + 1)) (x_unused σ) (σ 0 0 + 1) mem) := bX_ring (bX_sU hb h0) x_unused_lt h0 hm
  have loop : ∀ (j i : Nat), i + j = 5 → pv_V l D ty base b c_O_enterNewRing 4 y_O_enterNewRing.cls none y_O_enterNewRing.name (pv_rm 3 0 0) (fun _ => True) (pv_Qf base 0 0 (pv_QV D ty base b post)) 0 0 26 [some (.ref (0 + 1)), some (.int (nI (mem))), some (.ref (pR (x_unused σ) + 1)), some (.int (nI (i)))] [] (memX (x_ent mem (x_unused σ) (x_ring (sU σ 0 0 (σ 0 0 + 1)) (x_unused σ) (σ 0 0 + 1) mem) i) ++ ρ) := by
    intro j
    induction j with
    | zero =>
      intro i hi
      refine pv_iload_n d_O_enterNewRing_26 rfl rfl ?_
      refine pv_iconst d_O_enterNewRing_27 (nI 5) (by decide) ?_
      first | refine pv_icmpN_ge 55 (by decide) d_O_enterNewRing_28 (by first | assumption | omega) (by first | assumption | omega) (fun h28 => ?_) (fun h28 => ?_) | refine pv_icmp_ge 55 (by decide) d_O_enterNewRing_28 (fun h28 => ?_) (fun h28 => ?_)
      · refine pv_vret d_O_enterNewRing_55 ?_
        obtain rfl : i = 5 := by omega
        exact k
      · omega
    | succ j ih =>
      intro i hi
      refine pv_iload_n d_O_enterNewRing_26 rfl rfl ?_
      refine pv_iconst d_O_enterNewRing_27 (nI 5) (by decide) ?_
      first | refine pv_icmpN_ge 55 (by decide) d_O_enterNewRing_28 (by first | assumption | omega) (by first | assumption | omega) (fun h28 => ?_) (fun h28 => ?_) | refine pv_icmp_ge 55 (by decide) d_O_enterNewRing_28 (fun h28 => ?_) (fun h28 => ?_)
      · omega
      · refine pv_iload_n d_O_enterNewRing_31 rfl rfl ?_
        refine pv_iload_n d_O_enterNewRing_32 rfl rfl ?_
        refine pv_callS2I d_O_enterNewRing_33 (k_O_isIn (by first | assumption | omega) (by first | assumption | omega) ?_) sb_O_isIn wm_O_212 ws_O_isIn (by decide) (by decide) (Nat.le_of_ble_eq_true rfl) (by decide) (by decide)
        have hbb := b2_lt (mem.testBit i)
        first | refine pv_ifN_eq 49 (by decide) d_O_enterNewRing_36 (by first | assumption | omega) (fun h36 => ?_) (fun h36 => ?_) | refine pv_if_eq 49 (by decide) d_O_enterNewRing_36 (fun h36 => ?_) (fun h36 => ?_)
        · refine pv_inc3 d_O_enterNewRing_49 rfl (by decide) ?_
          refine pv_goto 26 (by decide) d_O_enterNewRing_52 ?_
          have hq := ih (i + 1) (by omega)
          rw [x_ent_s] at hq
          rw [if_neg (by rw [b2_0.mp h36]; decide)] at hq
          exact hq
        · refine pv_aload_n d_O_enterNewRing_39 rfl rfl ?_
          refine gO_nodes d_O_enterNewRing_40 ff_O_11 ?_
          refine pv_iload_n d_O_enterNewRing_43 rfl rfl ?_
          refine l_nodes d_O_enterNewRing_44 (by first | assumption | omega) ?_
          refine pv_aload_n d_O_enterNewRing_45 rfl rfl ?_
          refine pv_callV1V d_O_enterNewRing_46 (k_N_enter (by first | assumption | omega) (bX_ent hbr x_unused_lt i) ?_) sb_N_enter wm_O_240 (gx_N (by first | assumption | omega)) rfl ⟨wi_N_enter, we_N_enter⟩ (by decide) (by decide) (Nat.le_of_ble_eq_true rfl) (by decide) (by decide)
          refine pv_inc3 d_O_enterNewRing_49 rfl (by decide) ?_
          refine pv_goto 26 (by decide) d_O_enterNewRing_52 ?_
          have hq := ih (i + 1) (by omega)
          rw [x_ent_s] at hq
          rw [if_pos (b2_n0.mp h36)] at hq
          exact hq
  refine pv_aload_n d_O_enterNewRing_0 rfl rfl ?_
  refine pv_callV0R d_O_enterNewRing_1 (k_O_unusedRing ?_) sb_O_unusedRing wm_O_232 gx_O rfl ⟨wi_O_unusedRing, we_O_unusedRing⟩ (by decide) (by decide) (Nat.le_of_ble_eq_true rfl) (by decide) (by decide)
  refine pv_ast2 d_O_enterNewRing_4 rfl (by decide) ?_
  refine pv_aload_n d_O_enterNewRing_5 rfl rfl ?_
  refine pv_dup d_O_enterNewRing_6 rfl ?_
  refine gO_greatestRing d_O_enterNewRing_7 ff_O_32 ?_
  refine pv_iconst d_O_enterNewRing_10 (nI 1) (by decide) ?_
  first | refine pv_iaddN d_O_enterNewRing_11 ?_ | refine pv_iadd d_O_enterNewRing_11 ?_
  refine pO_greatestRing d_O_enterNewRing_12 ff_O_32 ?_
  refine pv_aload_n d_O_enterNewRing_15 rfl rfl ?_
  refine pv_aload_n d_O_enterNewRing_16 rfl rfl ?_
  refine gO_greatestRing d_O_enterNewRing_17 ff_O_32 ?_
  rw [sU_same]
  refine pv_iload_n d_O_enterNewRing_20 rfl rfl ?_
  refine pv_callV2V d_O_enterNewRing_21 (k_R_form x_unused_lt (bX_sU hb h0) h0 hm ?_) sb_R_form wm_O_236 (gx_R (by first | assumption | omega)) rfl ⟨wi_R_form, we_R_form⟩ (by decide) (by decide) (Nat.le_of_ble_eq_true rfl) (by decide) (by decide)
  refine pv_iconst d_O_enterNewRing_24 (nI 0) (by decide) ?_
  refine pv_ist3 d_O_enterNewRing_25 rfl (by decide) ?_
  exact loop 5 0 rfl

set_option maxRecDepth 100000 in
set_option maxHeartbeats 4000000 in
theorem k_O_broadcast {post : List va_E → Prop} {n q : Nat} (hn : n < 5) (hb : bX σ) (hq : q < 49) (k : post (memX (x_bcast σ n q) ++ ρ)) : pv_M l D ty base b 2 0 0 (fun _ => True) y_O_broadcast c_O_broadcast 7 none [.ref (0 + 1), .ref (pN n + 1), .int (nI q)] (memX σ ++ ρ) (pv_QV D ty base b post) := by
  refine pv_enter [some (.ref (0 + 1)), some (.ref (pN n + 1)), some (.int (nI q)), none, none, none, none] (by decide) (fun _ => rfl) (fun _ => Nat.le_of_ble_eq_true rfl) ?_
  have hbh : bX (x_hold σ n q) := bX_hold hb hq
  have loop : ∀ (j i : Nat), i + j = 5 → pv_V l D ty base b c_O_broadcast 7 y_O_broadcast.cls none y_O_broadcast.name (pv_rm 2 0 0) (fun _ => True) (pv_Qf base 0 0 (pv_QV D ty base b post)) 0 0 17 [some (.ref (0 + 1)), some (.ref (pN n + 1)), some (.int (nI (q))), some (.ref (1 + 1)), some (.int (nI (5))), some (.int (nI (i))), none] [] (memX (x_bc n q (x_hold σ n q) i) ++ ρ) := by
    intro j
    induction j with
    | zero =>
      intro i hi
      refine pv_iload d_O_broadcast_17 rfl ?_
      refine pv_iload d_O_broadcast_19 rfl ?_
      first | refine pv_icmpN_ge 57 (by decide) d_O_broadcast_21 (by first | assumption | omega) (by first | assumption | omega) (fun h21 => ?_) (fun h21 => ?_) | refine pv_icmp_ge 57 (by decide) d_O_broadcast_21 (fun h21 => ?_) (fun h21 => ?_)
      · refine pv_vret d_O_broadcast_57 ?_
        obtain rfl : i = 5 := by omega
        exact k
      · omega
    | succ j ih =>
      intro i hi
      refine pv_iload d_O_broadcast_17 rfl ?_
      refine pv_iload d_O_broadcast_19 rfl ?_
      first | refine pv_icmpN_ge 57 (by decide) d_O_broadcast_21 (by first | assumption | omega) (by first | assumption | omega) (fun h21 => ?_) (fun h21 => ?_) | refine pv_icmp_ge 57 (by decide) d_O_broadcast_21 (fun h21 => ?_) (fun h21 => ?_)
      · omega
      · refine pv_aload_n d_O_broadcast_24 rfl rfl ?_
        refine pv_iload d_O_broadcast_25 rfl ?_
        refine l_nodes d_O_broadcast_27 (by first | assumption | omega) ?_
        refine pv_ast6 d_O_broadcast_28 rfl (by decide) ?_
        refine pv_aload d_O_broadcast_30 rfl ?_
        refine pv_aload_n d_O_broadcast_32 rfl rfl ?_
        refine pv_acmp_eq (x := some _) (y := some _) 51 (by decide) d_O_broadcast_33 (fun h33 => ?_) (fun h33 => ?_)
        · refine pv_inc5 d_O_broadcast_51 rfl (by decide) ?_
          refine pv_goto 17 (by decide) d_O_broadcast_54 ?_
          have hz := ih (i + 1) (by omega)
          rw [x_bc_s] at hz
          refine pv_fg6 ?_
          rw [if_neg (fun z => z.1 (pN_inj h33))] at hz
          exact hz
        · refine pv_aload_n d_O_broadcast_36 rfl rfl ?_
          refine pv_aload d_O_broadcast_37 rfl ?_
          refine pv_callS2I d_O_broadcast_39 (k_O_hearEachOther hn (by first | assumption | omega) (bX_bc hbh hq i) ?_) sb_O_hearEachOther wm_O_172 ws_O_hearEachOther (by decide) (by decide) (Nat.le_of_ble_eq_true rfl) (by decide) (by decide)
          have hbb := b2_lt (x_hear (x_bc n q (x_hold σ n q) i) n i)
          first | refine pv_ifN_eq 51 (by decide) d_O_broadcast_42 (by first | assumption | omega) (fun h42 => ?_) (fun h42 => ?_) | refine pv_if_eq 51 (by decide) d_O_broadcast_42 (fun h42 => ?_) (fun h42 => ?_)
          · refine pv_inc5 d_O_broadcast_51 rfl (by decide) ?_
            refine pv_goto 17 (by decide) d_O_broadcast_54 ?_
            have hz := ih (i + 1) (by omega)
            rw [x_bc_s] at hz
            refine pv_fg6 ?_
            rw [if_neg (fun z => absurd z.2 (by rw [b2_0.mp h42]; decide))] at hz
            exact hz
          · refine pv_aload d_O_broadcast_45 rfl ?_
            refine pv_iload_n d_O_broadcast_47 rfl rfl ?_
            refine pv_callV1V d_O_broadcast_48 (k_N_receive (by first | assumption | omega) (bX_bc hbh hq i) hq ?_) sb_N_receive wm_O_176 (gx_N (by first | assumption | omega)) rfl ⟨wi_N_receive, we_N_receive⟩ (by decide) (by decide) (Nat.le_of_ble_eq_true rfl) (by decide) (by decide)
            refine pv_inc5 d_O_broadcast_51 rfl (by decide) ?_
            refine pv_goto 17 (by decide) d_O_broadcast_54 ?_
            have hz := ih (i + 1) (by omega)
            rw [x_bc_s] at hz
            refine pv_fg6 ?_
            rw [if_pos ⟨fun z => h33 (by rw [z]), b2_n0.mp h42⟩] at hz
            exact hz
  refine pv_aload_n d_O_broadcast_0 rfl rfl ?_
  refine pv_iload_n d_O_broadcast_1 rfl rfl ?_
  refine pv_callV1V d_O_broadcast_2 (k_N_hold hn hq ?_) sb_N_hold wm_O_169 (gx_N (by first | assumption | omega)) rfl ⟨wi_N_hold, we_N_hold⟩ (by decide) (by decide) (Nat.le_of_ble_eq_true rfl) (by decide) (by decide)
  refine pv_aload_n d_O_broadcast_5 rfl rfl ?_
  refine gO_nodes d_O_broadcast_6 ff_O_11 ?_
  refine pv_ast3 d_O_broadcast_9 rfl (by decide) ?_
  refine pv_aload_n d_O_broadcast_10 rfl rfl ?_
  refine n_nodes d_O_broadcast_11 ?_
  refine pv_ist4 d_O_broadcast_12 rfl (by decide) ?_
  refine pv_iconst d_O_broadcast_14 (nI 0) (by decide) ?_
  refine pv_ist5 d_O_broadcast_15 rfl (by decide) ?_
  exact loop 5 0 rfl

set_option maxRecDepth 100000 in
set_option maxHeartbeats 4000000 in
theorem k_O_isDeliverable {post : Int32 → List va_E → Prop} {n r q : Nat} (hn : n < 5) (hr : r < 6) (hb : bX σ) (hq : q < 49) (k : post (nI (b2 (x_dl σ n r q))) (memX σ ++ ρ)) : pv_M l D ty base b 1 0 0 (fun _ => True) y_O_isDeliverable c_O_isDeliverable 4 (some .boolean) [.ref (0 + 1), .ref (pN n + 1), .ref (pR r + 1), .int (nI q)] (memX σ ++ ρ) (pv_QI D ty base b post) := by
  refine pv_enter [some (.ref (0 + 1)), some (.ref (pN n + 1)), some (.ref (pR r + 1)), some (.int (nI q))] (by decide) (fun _ => rfl) (fun _ => Nat.le_of_ble_eq_true rfl) ?_
  have hm := msg_lt (q := q) hb hr
  have h6 : σ 6 n < 49 := hb 6 n
  have h61 : σ 61 (σ (40 + r) q) < 2 := hb 61 _
  have hbb := b2_lt ((σ 2 n).testBit q)
  refine pv_aload_n d_O_isDeliverable_0 rfl rfl ?_
  refine pv_iload_n d_O_isDeliverable_1 rfl rfl ?_
  refine pv_callV1I d_O_isDeliverable_2 (k_N_holds hn hb hq ?_) sb_N_holds wm_O_153 (gx_N (by first | assumption | omega)) rfl ⟨wi_N_holds, we_N_holds⟩ (by decide) (by decide) (Nat.le_of_ble_eq_true rfl) (by decide) (by decide)
  first | refine pv_ifN_eq 37 (by decide) d_O_isDeliverable_5 (by first | assumption | omega) (fun h5 => ?_) (fun h5 => ?_) | refine pv_if_eq 37 (by decide) d_O_isDeliverable_5 (fun h5 => ?_) (fun h5 => ?_)
  · refine pv_iconst d_O_isDeliverable_37 (nI 0) (by decide) ?_
    refine pv_zret d_O_isDeliverable_38 (by first | rfl | decide) ?_
    have hx : x_dl σ n r q = false := by rw [x_dl, b2_0.mp h5, Bool.false_and]
    rw [hx] at k
    exact k
  · refine pv_iload_n d_O_isDeliverable_8 rfl rfl ?_
    refine pv_aload_n d_O_isDeliverable_9 rfl rfl ?_
    refine gN_line d_O_isDeliverable_10 ff_O_82 (by first | assumption | omega) ?_
    first | refine pv_icmpN_le 33 (by decide) d_O_isDeliverable_13 (by first | assumption | omega) (by first | assumption | omega) (fun h13 => ?_) (fun h13 => ?_) | refine pv_icmp_le 33 (by decide) d_O_isDeliverable_13 (fun h13 => ?_) (fun h13 => ?_)
    · refine pv_iconst d_O_isDeliverable_33 (nI 1) (by decide) ?_
      refine pv_goto 38 (by decide) d_O_isDeliverable_34 ?_
      refine pv_zret d_O_isDeliverable_38 (by first | rfl | decide) ?_
      have hx : x_dl σ n r q = true := by rw [x_dl, b2_n0.mp h5, decide_eq_true h13, Bool.true_and, Bool.true_or]
      rw [hx] at k
      exact k
    · refine pv_aload_n d_O_isDeliverable_16 rfl rfl ?_
      refine gO_messages d_O_isDeliverable_17 ff_O_28 ?_
      refine gM_safe d_O_isDeliverable_20 ff_O_192 ?_
      refine pv_aload_n d_O_isDeliverable_23 rfl rfl ?_
      refine gR_messageAt d_O_isDeliverable_24 ff_O_166 (by first | assumption | omega) ?_
      refine pv_iload_n d_O_isDeliverable_27 rfl rfl ?_
      refine l_messageAt d_O_isDeliverable_28 (by first | assumption | omega) (by first | assumption | omega) ?_
      refine l_safe d_O_isDeliverable_29 (by first | assumption | omega) ?_
      first | refine pv_ifN_ne 37 (by decide) d_O_isDeliverable_30 (by first | assumption | omega) (fun h30 => ?_) (fun h30 => ?_) | refine pv_if_ne 37 (by decide) d_O_isDeliverable_30 (fun h30 => ?_) (fun h30 => ?_)
      · refine pv_iconst d_O_isDeliverable_37 (nI 0) (by decide) ?_
        refine pv_zret d_O_isDeliverable_38 (by first | rfl | decide) ?_
        have hx : x_dl σ n r q = false := by rw [x_dl, decide_eq_false (Nat.not_le.mpr h13), decide_eq_false h30, Bool.or_self, Bool.and_false]
        rw [hx] at k
        exact k
      · refine pv_iconst d_O_isDeliverable_33 (nI 1) (by decide) ?_
        refine pv_goto 38 (by decide) d_O_isDeliverable_34 ?_
        refine pv_zret d_O_isDeliverable_38 (by first | rfl | decide) ?_
        have hx : x_dl σ n r q = true := by rw [x_dl, b2_n0.mp h5, decide_eq_true h30, Bool.or_true, Bool.and_self]
        rw [hx] at k
        exact k

set_option maxRecDepth 100000 in
set_option maxHeartbeats 4000000 in
theorem k_O_deliverRegular {post : List va_E → Prop} {n r : Nat} (hn : n < 5) (hr : r < 6) (hb : bX σ) (k : post (memX (x_del n r (48 - σ 7 n) σ) ++ ρ)) : pv_M l D ty base b 2 0 0 (fun _ => True) y_O_deliverRegular c_O_deliverRegular 4 none [.ref (0 + 1), .ref (pN n + 1), .ref (pR r + 1)] (memX σ ++ ρ) (pv_QV D ty base b post) := by
  refine pv_enter [some (.ref (0 + 1)), some (.ref (pN n + 1)), some (.ref (pR r + 1)), none] (by decide) (fun _ => rfl) (fun _ => Nat.le_of_ble_eq_true rfl) ?_
  have h7 : σ 7 n < 49 := hb 7 n
  have loop : ∀ (j : Nat) (s : Nat → Nat → Nat), s 7 n + j = 48 → bX s → post (memX (x_del n r j s) ++ ρ) → pv_V l D ty base b c_O_deliverRegular 4 y_O_deliverRegular.cls none y_O_deliverRegular.name (pv_rm 2 0 0) (fun _ => True) (pv_Qf base 0 0 (pv_QV D ty base b post)) 0 0 7 [some (.ref (0 + 1)), some (.ref (pN n + 1)), some (.ref (pR r + 1)), some (.int (nI (s 7 n + 1)))] [] (memX s ++ ρ) := by
    intro j
    induction j with
    | zero =>
      intro s hi hs k
      refine pv_iload_n d_O_deliverRegular_7 rfl rfl ?_
      refine pv_bipush d_O_deliverRegular_8 (nI 48) (by decide) ?_
      first | refine pv_icmpN_gt 47 (by decide) d_O_deliverRegular_10 (by first | assumption | omega) (by first | assumption | omega) (fun h10 => ?_) (fun h10 => ?_) | refine pv_icmp_gt 47 (by decide) d_O_deliverRegular_10 (fun h10 => ?_) (fun h10 => ?_)
      · refine pv_vret d_O_deliverRegular_47 ?_
        exact k
      · omega
    | succ j ih =>
      intro s hi hs k
      unfold x_del at k
      refine pv_iload_n d_O_deliverRegular_7 rfl rfl ?_
      refine pv_bipush d_O_deliverRegular_8 (nI 48) (by decide) ?_
      first | refine pv_icmpN_gt 47 (by decide) d_O_deliverRegular_10 (by first | assumption | omega) (by first | assumption | omega) (fun h10 => ?_) (fun h10 => ?_) | refine pv_icmp_gt 47 (by decide) d_O_deliverRegular_10 (fun h10 => ?_) (fun h10 => ?_)
      · omega
      · refine pv_aload_n d_O_deliverRegular_13 rfl rfl ?_
        refine pv_aload_n d_O_deliverRegular_14 rfl rfl ?_
        refine pv_aload_n d_O_deliverRegular_15 rfl rfl ?_
        refine pv_iload_n d_O_deliverRegular_16 rfl rfl ?_
        refine pv_callV3I d_O_deliverRegular_17 (k_O_isDeliverable hn hr hs (by omega) ?_) sb_O_isDeliverable wm_O_185 gx_O rfl ⟨wi_O_isDeliverable, we_O_isDeliverable⟩ (by decide) (by decide) (Nat.le_of_ble_eq_true rfl) (by decide) (by decide)
        have hbb := b2_lt (x_dl s n r (s 7 n + 1))
        first | refine pv_ifN_ne 24 (by decide) d_O_deliverRegular_20 (by first | assumption | omega) (fun h20 => ?_) (fun h20 => ?_) | refine pv_if_ne 24 (by decide) d_O_deliverRegular_20 (fun h20 => ?_) (fun h20 => ?_)
        · refine pv_aload_n d_O_deliverRegular_24 rfl rfl ?_
          refine pv_iconst d_O_deliverRegular_25 (nI 2) (by decide) ?_
          refine pv_aload_n d_O_deliverRegular_26 rfl rfl ?_
          refine gR_messageAt d_O_deliverRegular_27 ff_O_166 (by first | assumption | omega) ?_
          refine pv_iload_n d_O_deliverRegular_30 rfl rfl ?_
          refine l_messageAt d_O_deliverRegular_31 (by first | assumption | omega) (by first | assumption | omega) ?_
          first | refine pv_imulN d_O_deliverRegular_32 ?_ | refine pv_imul d_O_deliverRegular_32 ?_
          refine pv_callV1V d_O_deliverRegular_33 (k_N_append hn hs ?_) sb_N_append wm_O_189 (gx_N (by first | assumption | omega)) rfl ⟨wi_N_append, we_N_append⟩ (by decide) (by decide) (Nat.le_of_ble_eq_true rfl) (by decide) (by decide)
          refine pv_aload_n d_O_deliverRegular_36 rfl rfl ?_
          refine pv_iload_n d_O_deliverRegular_37 rfl rfl ?_
          refine pN_place d_O_deliverRegular_38 ff_O_182 (by first | assumption | omega) ?_
          refine pv_inc3 d_O_deliverRegular_41 rfl (by decide) ?_
          refine pv_goto 7 (by decide) d_O_deliverRegular_44 ?_
          rw [if_pos (b2_n0.mp h20)] at k
          have hz := ih _ (by rw [sU_same]; omega) (bX_del1 hs hn hr (by omega)) k
          rw [sU_same] at hz
          exact hz
        · refine pv_vret d_O_deliverRegular_23 ?_
          rw [if_neg (by rw [b2_0.mp h20]; decide)] at k
          exact k
  refine pv_aload_n d_O_deliverRegular_0 rfl rfl ?_
  refine gN_place d_O_deliverRegular_1 ff_O_182 (by first | assumption | omega) ?_
  refine pv_iconst d_O_deliverRegular_4 (nI 1) (by decide) ?_
  first | refine pv_iaddN d_O_deliverRegular_5 ?_ | refine pv_iadd d_O_deliverRegular_5 ?_
  refine pv_ist3 d_O_deliverRegular_6 rfl (by decide) ?_
  exact loop (48 - σ 7 n) σ (by omega) hb k

set_option maxRecDepth 100000 in
set_option maxHeartbeats 4000000 in
theorem k_O_deliverInRing {post : List va_E → Prop} {r : Nat} (hr : r < 6) (hb : bX σ) (k : post (memX (x_delR r σ 5) ++ ρ)) : pv_M l D ty base b 3 0 0 (fun _ => True) y_O_deliverInRing c_O_deliverInRing 6 none [.ref (0 + 1), .ref (pR r + 1)] (memX σ ++ ρ) (pv_QV D ty base b post) := by
  refine pv_enter [some (.ref (0 + 1)), some (.ref (pR r + 1)), none, none, none, none] (by decide) (fun _ => rfl) (fun _ => Nat.le_of_ble_eq_true rfl) ?_
  have loop : ∀ (j i : Nat), i + j = 5 → pv_V l D ty base b c_O_deliverInRing 6 y_O_deliverInRing.cls none y_O_deliverInRing.name (pv_rm 3 0 0) (fun _ => True) (pv_Qf base 0 0 (pv_QV D ty base b post)) 0 0 11 [some (.ref (0 + 1)), some (.ref (pR r + 1)), some (.ref (1 + 1)), some (.int (nI (5))), some (.int (nI (i))), none] [] (memX (x_delR r σ i) ++ ρ) := by
    intro j
    induction j with
    | zero =>
      intro i hi
      refine pv_iload d_O_deliverInRing_11 rfl ?_
      refine pv_iload_n d_O_deliverInRing_13 rfl rfl ?_
      first | refine pv_icmpN_ge 45 (by decide) d_O_deliverInRing_14 (by first | assumption | omega) (by first | assumption | omega) (fun h14 => ?_) (fun h14 => ?_) | refine pv_icmp_ge 45 (by decide) d_O_deliverInRing_14 (fun h14 => ?_) (fun h14 => ?_)
      · refine pv_vret d_O_deliverInRing_45 ?_
        obtain rfl : i = 5 := by omega
        exact k
      · omega
    | succ j ih =>
      intro i hi
      refine pv_iload d_O_deliverInRing_11 rfl ?_
      refine pv_iload_n d_O_deliverInRing_13 rfl rfl ?_
      first | refine pv_icmpN_ge 45 (by decide) d_O_deliverInRing_14 (by first | assumption | omega) (by first | assumption | omega) (fun h14 => ?_) (fun h14 => ?_) | refine pv_icmp_ge 45 (by decide) d_O_deliverInRing_14 (fun h14 => ?_) (fun h14 => ?_)
      · omega
      · refine pv_aload_n d_O_deliverInRing_17 rfl rfl ?_
        refine pv_iload d_O_deliverInRing_18 rfl ?_
        refine l_nodes d_O_deliverInRing_20 (by first | assumption | omega) ?_
        refine pv_ast5 d_O_deliverInRing_21 rfl (by decide) ?_
        refine pv_aload d_O_deliverInRing_23 rfl ?_
        refine gN_ring d_O_deliverInRing_25 ff_O_60 (by first | assumption | omega) ?_
        refine pv_aload_n d_O_deliverInRing_28 rfl rfl ?_
        refine pv_acmp_ne (y := some _) 39 (by decide) d_O_deliverInRing_29 (fun h29 => ?_) (fun h29 => ?_)
        · refine pv_inc4 d_O_deliverInRing_39 rfl (by decide) ?_
          refine pv_goto 11 (by decide) d_O_deliverInRing_42 ?_
          have hz := ih (i + 1) (by omega)
          rw [x_delR_s] at hz
          refine pv_fg5 ?_
          rw [if_neg (fun z => h29 (xp_some.mpr z))] at hz
          exact hz
        · refine pv_aload_n d_O_deliverInRing_32 rfl rfl ?_
          refine pv_aload d_O_deliverInRing_33 rfl ?_
          refine pv_aload_n d_O_deliverInRing_35 rfl rfl ?_
          refine pv_callV2V d_O_deliverInRing_36 (k_O_deliverRegular (by first | assumption | omega) hr (bX_delR hb hr i (by omega)) ?_) sb_O_deliverRegular wm_O_179 gx_O rfl ⟨wi_O_deliverRegular, we_O_deliverRegular⟩ (by decide) (by decide) (Nat.le_of_ble_eq_true rfl) (by decide) (by decide)
          refine pv_inc4 d_O_deliverInRing_39 rfl (by decide) ?_
          refine pv_goto 11 (by decide) d_O_deliverInRing_42 ?_
          have hz := ih (i + 1) (by omega)
          rw [x_delR_s] at hz
          refine pv_fg5 ?_
          rw [if_pos (xp_some.mp h29)] at hz
          exact hz
  refine pv_aload_n d_O_deliverInRing_0 rfl rfl ?_
  refine gO_nodes d_O_deliverInRing_1 ff_O_11 ?_
  refine pv_ast2 d_O_deliverInRing_4 rfl (by decide) ?_
  refine pv_aload_n d_O_deliverInRing_5 rfl rfl ?_
  refine n_nodes d_O_deliverInRing_6 ?_
  refine pv_ist3 d_O_deliverInRing_7 rfl (by decide) ?_
  refine pv_iconst d_O_deliverInRing_8 (nI 0) (by decide) ?_
  refine pv_ist4 d_O_deliverInRing_9 rfl (by decide) ?_
  exact loop 5 0 rfl

set_option maxRecDepth 100000 in
set_option maxHeartbeats 4000000 in
theorem k_O_hasStranger {post : Int32 → List va_E → Prop} {n : Nat} (hn : n < 5) (hb : bX σ) (k : post (nI (b2 (x_st σ n 5 0))) (memX σ ++ ρ)) : pv_M l D ty base b 1 0 0 (fun _ => True) y_O_hasStranger c_O_hasStranger 6 (some .boolean) [.ref (0 + 1), .ref (pN n + 1)] (memX σ ++ ρ) (pv_QI D ty base b post) := by
  refine pv_enter [some (.ref (0 + 1)), some (.ref (pN n + 1)), none, none, none, none] (by decide) (fun _ => rfl) (fun _ => Nat.le_of_ble_eq_true rfl) ?_
  have h5n : σ 5 n < 3 := hb 5 n
  have loop : ∀ (j i : Nat), i + j = 5 → post (nI (b2 (x_st σ n j i))) (memX σ ++ ρ) → pv_V l D ty base b c_O_hasStranger 6 y_O_hasStranger.cls (some .boolean) y_O_hasStranger.name (pv_rm 1 0 0) (fun _ => True) (pv_Qf base 0 0 (pv_QI D ty base b post)) 0 0 11 [some (.ref (0 + 1)), some (.ref (pN n + 1)), some (.ref (1 + 1)), some (.int (nI (5))), some (.int (nI (i))), none] [] (memX σ ++ ρ) := by
    intro j
    induction j with
    | zero =>
      intro i hi k
      refine pv_iload d_O_hasStranger_11 rfl ?_
      refine pv_iload_n d_O_hasStranger_13 rfl rfl ?_
      first | refine pv_icmpN_ge 63 (by decide) d_O_hasStranger_14 (by first | assumption | omega) (by first | assumption | omega) (fun h14 => ?_) (fun h14 => ?_) | refine pv_icmp_ge 63 (by decide) d_O_hasStranger_14 (fun h14 => ?_) (fun h14 => ?_)
      · refine pv_iconst d_O_hasStranger_63 (nI 0) (by decide) ?_
        refine pv_zret d_O_hasStranger_64 (by first | rfl | decide) ?_
        exact k
      · omega
    | succ j ih =>
      intro i hi k
      unfold x_st at k
      refine pv_iload d_O_hasStranger_11 rfl ?_
      refine pv_iload_n d_O_hasStranger_13 rfl rfl ?_
      first | refine pv_icmpN_ge 63 (by decide) d_O_hasStranger_14 (by first | assumption | omega) (by first | assumption | omega) (fun h14 => ?_) (fun h14 => ?_) | refine pv_icmp_ge 63 (by decide) d_O_hasStranger_14 (fun h14 => ?_) (fun h14 => ?_)
      · omega
      · refine pv_aload_n d_O_hasStranger_17 rfl rfl ?_
        refine pv_iload d_O_hasStranger_18 rfl ?_
        refine l_nodes d_O_hasStranger_20 (by first | assumption | omega) ?_
        refine pv_ast5 d_O_hasStranger_21 rfl (by decide) ?_
        refine pv_aload d_O_hasStranger_23 rfl ?_
        refine pv_callV0I d_O_hasStranger_25 (k_N_isUp (by first | assumption | omega) ?_) sb_N_isUp wm_O_43 (gx_N (by first | assumption | omega)) rfl ⟨wi_N_isUp, we_N_isUp⟩ (by decide) (by decide) (Nat.le_of_ble_eq_true rfl) (by decide) (by decide)
        have hbb := b2_lt (decide (σ 1 i ≠ 0))
        have h5i : σ 5 i < 3 := hb 5 i
        first | refine pv_ifN_eq 57 (by decide) d_O_hasStranger_28 (by first | assumption | omega) (fun h28 => ?_) (fun h28 => ?_) | refine pv_if_eq 57 (by decide) d_O_hasStranger_28 (fun h28 => ?_) (fun h28 => ?_)
        · refine pv_inc4 d_O_hasStranger_57 rfl (by decide) ?_
          refine pv_goto 11 (by decide) d_O_hasStranger_60 ?_
          refine pv_fg5 ?_
          rw [if_neg (fun z => (of_decide_eq_false (b2_0.mp h28)) z.1)] at k
          exact ih (i + 1) (by omega) k
        · refine pv_aload d_O_hasStranger_31 rfl ?_
          refine gN_area d_O_hasStranger_33 ff_O_96 (by first | assumption | omega) ?_
          refine pv_aload_n d_O_hasStranger_36 rfl rfl ?_
          refine gN_area d_O_hasStranger_37 ff_O_96 (by first | assumption | omega) ?_
          first | refine pv_icmpN_ne 57 (by decide) d_O_hasStranger_40 (by first | assumption | omega) (by first | assumption | omega) (fun h40 => ?_) (fun h40 => ?_) | refine pv_icmp_ne 57 (by decide) d_O_hasStranger_40 (fun h40 => ?_) (fun h40 => ?_)
          · refine pv_inc4 d_O_hasStranger_57 rfl (by decide) ?_
            refine pv_goto 11 (by decide) d_O_hasStranger_60 ?_
            refine pv_fg5 ?_
            rw [if_neg (fun z => h40 z.2.1)] at k
            exact ih (i + 1) (by omega) k
          · refine pv_aload d_O_hasStranger_43 rfl ?_
            refine gN_ring d_O_hasStranger_45 ff_O_60 (by first | assumption | omega) ?_
            refine pv_aload_n d_O_hasStranger_48 rfl rfl ?_
            refine gN_ring d_O_hasStranger_49 ff_O_60 (by first | assumption | omega) ?_
            refine pv_acmp_eq 57 (by decide) d_O_hasStranger_52 (fun h52 => ?_) (fun h52 => ?_)
            · refine pv_inc4 d_O_hasStranger_57 rfl (by decide) ?_
              refine pv_goto 11 (by decide) d_O_hasStranger_60 ?_
              refine pv_fg5 ?_
              rw [if_neg (fun z => z.2.2 (xp_inj h52))] at k
              exact ih (i + 1) (by omega) k
            · refine pv_iconst d_O_hasStranger_55 (nI 1) (by decide) ?_
              refine pv_zret d_O_hasStranger_56 (by first | rfl | decide) ?_
              rw [if_pos ⟨of_decide_eq_true (b2_n0.mp h28), h40, fun q => h52 (by rw [q])⟩] at k
              exact k
  refine pv_aload_n d_O_hasStranger_0 rfl rfl ?_
  refine gO_nodes d_O_hasStranger_1 ff_O_11 ?_
  refine pv_ast2 d_O_hasStranger_4 rfl (by decide) ?_
  refine pv_aload_n d_O_hasStranger_5 rfl rfl ?_
  refine n_nodes d_O_hasStranger_6 ?_
  refine pv_ist3 d_O_hasStranger_7 rfl (by decide) ?_
  refine pv_iconst d_O_hasStranger_8 (nI 0) (by decide) ?_
  refine pv_ist4 d_O_hasStranger_9 rfl (by decide) ?_
  exact loop 5 0 rfl k

set_option maxRecDepth 100000 in
set_option maxHeartbeats 4000000 in
theorem k_O_passToken {post : List va_E → Prop} {n r : Nat} (hn : n < 5) (hr : r < 6) (hb : bX σ) (k : post (memX (x_pass σ n r) ++ ρ)) : pv_M l D ty base b 2 0 0 (fun _ => True) y_O_passToken c_O_passToken 4 none [.ref (0 + 1), .ref (pN n + 1), .ref (pR r + 1)] (memX σ ++ ρ) (pv_QV D ty base b post) := by
  refine pv_enter [some (.ref (0 + 1)), some (.ref (pN n + 1)), some (.ref (pR r + 1)), none] (by decide) (fun _ => rfl) (fun _ => Nat.le_of_ble_eq_true rfl) ?_
  have haf : x_after (σ 11 r) n < 5 := x_af_lt hn 4 0
  refine pv_aload_n d_O_passToken_0 rfl rfl ?_
  refine pv_aload_n d_O_passToken_1 rfl rfl ?_
  refine gN_number d_O_passToken_2 ff_O_196 (by first | assumption | omega) ?_
  refine pv_callV1I d_O_passToken_5 (k_R_memberAfter hr hn hb ?_) sb_R_memberAfter wm_O_197 (gx_R (by first | assumption | omega)) rfl ⟨wi_R_memberAfter, we_R_memberAfter⟩ (by decide) (by decide) (Nat.le_of_ble_eq_true rfl) (by decide) (by decide)
  refine pv_ist3 d_O_passToken_8 rfl (by decide) ?_
  refine pv_aload_n d_O_passToken_9 rfl rfl ?_
  refine pv_aload_n d_O_passToken_10 rfl rfl ?_
  refine pv_aload_n d_O_passToken_11 rfl rfl ?_
  refine gO_nodes d_O_passToken_12 ff_O_11 ?_
  refine pv_iload_n d_O_passToken_15 rfl rfl ?_
  refine l_nodes d_O_passToken_16 (by first | assumption | omega) ?_
  refine pv_callS2I d_O_passToken_17 (k_O_hearEachOther hn haf hb ?_) sb_O_hearEachOther wm_O_172 ws_O_hearEachOther (by decide) (by decide) (Nat.le_of_ble_eq_true rfl) (by decide) (by decide)
  have hbb := b2_lt (x_hear σ n (x_after (σ 11 r) n))
  first | refine pv_ifN_eq 27 (by decide) d_O_passToken_20 (by first | assumption | omega) (fun h20 => ?_) (fun h20 => ?_) | refine pv_if_eq 27 (by decide) d_O_passToken_20 (fun h20 => ?_) (fun h20 => ?_)
  · refine pv_iconst d_O_passToken_27 (-1) (by decide) ?_
    refine pR_tokenAtM d_O_passToken_28 ff_O_64 (by first | assumption | omega) ?_
    refine pv_vret d_O_passToken_31 ?_
    rw [x_pass, if_neg (by rw [b2_0.mp h20]; decide)] at k
    exact k
  · refine pv_iload_n d_O_passToken_23 rfl rfl ?_
    refine pv_goto 28 (by decide) d_O_passToken_24 ?_
    refine pR_tokenAtI d_O_passToken_28 ff_O_64 (by first | assumption | omega) ?_
    refine pv_vret d_O_passToken_31 ?_
    rw [x_pass, if_pos (b2_n0.mp h20)] at k
    exact k

end OWN
