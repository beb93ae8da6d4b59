/-! 17.pub: what the public methods of RotatingTokenGroup do -/
section PUB
section LONGS
variable {l : Launch} {D : va_G} {ty : Nat → ClassId} {base b : Nat} {cc : ByteArray} {nL : Nat} {own : String} {ret : Option FieldType} {nm : String} {R : Room} {Ex : State → Prop} {Qf : List Frame → Array Value → State → State → Prop} {cells slots pc : Nat} {L : List (Option Value)} {st : List Value} {M : List va_E}
theorem pv_lushrN {x y : Nat} (hd : decode cc pc = .ok (.lushr, 1)) (h1 : x < 2 ^ 64) (h2 : y < 64) (k : pv_V l D ty base b cc nL own ret nm R Ex Qf cells slots (pc + 1) L (.long (lN (x / 2 ^ y)) :: st) M) : pv_V l D ty base b cc nL own ret nm R Ex Qf cells slots pc L (.int (nI y) :: .long (lN x) :: st) M := pv_lushr hd (by rw [wb_shr h1 h2]; exact k)
theorem pv_laddN {x y : Nat} (hd : decode cc pc = .ok (.ladd, 1)) (k : pv_V l D ty base b cc nL own ret nm R Ex Qf cells slots (pc + 1) L (.long (lN (x + y)) :: st) M) : pv_V l D ty base b cc nL own ret nm R Ex Qf cells slots pc L (.long (lN y) :: .long (lN x) :: st) M := pv_ladd hd ((lN_add x y).symm ▸ k)
theorem pv_lsubN {x y : Nat} (hd : decode cc pc = .ok (.lsub, 1)) (h : y ≤ x) (k : pv_V l D ty base b cc nL own ret nm R Ex Qf cells slots (pc + 1) L (.long (lN (x - y)) :: st) M) : pv_V l D ty base b cc nL own ret nm R Ex Qf cells slots pc L (.long (lN y) :: .long (lN x) :: st) M := pv_lsub hd (by rw [lN_sub h]; exact k)
end LONGS
variable {l : Launch} {D : va_G} {ty : Nat → ClassId} {base b : Nat} {σ : Nat → Nat → Nat} {ρ ξ : List va_E}
variable {M : List va_E}
theorem w1_le {x : Nat} : x / 2 ^ 1 &&& 6148914691236517205 ≤ x := Nat.le_trans Nat.and_le_left (Nat.div_le_self _ _)
theorem w1_lt {x : Nat} (h : x < 2 ^ 64) : w1 x < 2 ^ 64 := Nat.lt_of_le_of_lt (Nat.sub_le _ _) h
theorem w2_lt {x : Nat} : w2 x < 2 ^ 63 := by
  have h1 : x &&& 3689348814741910323 ≤ 3689348814741910323 := Nat.and_le_right
  have h2 : x / 2 ^ 2 &&& 3689348814741910323 ≤ 3689348814741910323 := Nat.and_le_right
  unfold w2
  omega
theorem w3_lt {x : Nat} : w3 x < 2 ^ 60 + 2 ^ 57 := by
  have h1 : x + x / 2 ^ 4 &&& 1085102592571150095 ≤ 1085102592571150095 := Nat.and_le_right
  unfold w3
  omega
set_option maxRecDepth 100000 in
set_option maxHeartbeats 4000000 in
theorem k_J_bitCount {post : Int32 → List va_E → Prop} {x : Nat} (hx : x < 2 ^ 64) (k : post (nI (swar x)) M) : pv_M l D ty base b 0 0 0 (fun _ => True) y_J_bitCount c_J_bitCount 2 (some .int) [.long (lN x)] (M) (pv_QI D ty base b post) := by
  refine pv_enter [some (.long (lN x)), none] (by decide) (fun _ => rfl) (fun _ => Nat.le_of_ble_eq_true rfl) ?_
  refine pv_lload_n d_J_bitCount_0 rfl rfl ?_
  refine pv_lload_n d_J_bitCount_1 rfl rfl ?_
  refine pv_iconst d_J_bitCount_2 (nI 1) (by decide) ?_
  refine pv_lushrN d_J_bitCount_3 (by first | assumption | omega) (by decide) ?_
  refine pv_ldc2 d_J_bitCount_4 wk_J_314 ?_
  rw [show (6148914691236517205 : Int64) = lN 6148914691236517205 from by decide]
  first | refine pv_landN d_J_bitCount_7 ?_ | refine pv_landC d_J_bitCount_7 ?_
  refine pv_lsubN d_J_bitCount_8 w1_le ?_
  refine pv_lst0 d_J_bitCount_9 rfl (by decide) ?_
  rw [show x - (x / 2 ^ 1 &&& 6148914691236517205) = w1 x from rfl]
  have hq1 := w1_lt hx
  generalize hy1 : w1 x = x1 at hq1 ⊢
  refine pv_lload_n d_J_bitCount_10 rfl rfl ?_
  refine pv_ldc2 d_J_bitCount_11 wk_J_316 ?_
  rw [show (3689348814741910323 : Int64) = lN 3689348814741910323 from by decide]
  first | refine pv_landN d_J_bitCount_14 ?_ | refine pv_landC d_J_bitCount_14 ?_
  refine pv_lload_n d_J_bitCount_15 rfl rfl ?_
  refine pv_iconst d_J_bitCount_16 (nI 2) (by decide) ?_
  refine pv_lushrN d_J_bitCount_17 (by first | assumption | omega) (by decide) ?_
  refine pv_ldc2 d_J_bitCount_18 wk_J_316 ?_
  rw [show (3689348814741910323 : Int64) = lN 3689348814741910323 from by decide]
  first | refine pv_landN d_J_bitCount_21 ?_ | refine pv_landC d_J_bitCount_21 ?_
  refine pv_laddN d_J_bitCount_22 ?_
  refine pv_lst0 d_J_bitCount_23 rfl (by decide) ?_
  rw [show (x1 &&& 3689348814741910323) + (x1 / 2 ^ 2 &&& 3689348814741910323) = w2 x1 from rfl]
  have hq2 := w2_lt (x := x1)
  generalize hy2 : w2 x1 = x2 at hq2 ⊢
  refine pv_lload_n d_J_bitCount_24 rfl rfl ?_
  refine pv_lload_n d_J_bitCount_25 rfl rfl ?_
  refine pv_iconst d_J_bitCount_26 (nI 4) (by decide) ?_
  refine pv_lushrN d_J_bitCount_27 (by first | assumption | omega) (by decide) ?_
  refine pv_laddN d_J_bitCount_28 ?_
  refine pv_ldc2 d_J_bitCount_29 wk_J_318 ?_
  rw [show (1085102592571150095 : Int64) = lN 1085102592571150095 from by decide]
  first | refine pv_landN d_J_bitCount_32 ?_ | refine pv_landC d_J_bitCount_32 ?_
  refine pv_lst0 d_J_bitCount_33 rfl (by decide) ?_
  rw [show (x2 + x2 / 2 ^ 4 &&& 1085102592571150095) = w3 x2 from rfl]
  have hq3 := w3_lt (x := x2)
  generalize hy3 : w3 x2 = x3 at hq3 ⊢
  refine pv_lload_n d_J_bitCount_34 rfl rfl ?_
  refine pv_lload_n d_J_bitCount_35 rfl rfl ?_
  refine pv_bipush d_J_bitCount_36 (nI 8) (by decide) ?_
  refine pv_lushrN d_J_bitCount_38 (by first | assumption | omega) (by decide) ?_
  refine pv_laddN d_J_bitCount_39 ?_
  refine pv_lst0 d_J_bitCount_40 rfl (by decide) ?_
  refine pv_lload_n d_J_bitCount_41 rfl rfl ?_
  refine pv_lload_n d_J_bitCount_42 rfl rfl ?_
  refine pv_bipush d_J_bitCount_43 (nI 16) (by decide) ?_
  refine pv_lushrN d_J_bitCount_45 (by first | assumption | omega) (by decide) ?_
  refine pv_laddN d_J_bitCount_46 ?_
  refine pv_lst0 d_J_bitCount_47 rfl (by decide) ?_
  refine pv_lload_n d_J_bitCount_48 rfl rfl ?_
  refine pv_lload_n d_J_bitCount_49 rfl rfl ?_
  refine pv_bipush d_J_bitCount_50 (nI 32) (by decide) ?_
  refine pv_lushrN d_J_bitCount_52 (by first | assumption | omega) (by decide) ?_
  refine pv_laddN d_J_bitCount_53 ?_
  refine pv_lst0 d_J_bitCount_54 rfl (by decide) ?_
  refine pv_lload_n d_J_bitCount_55 rfl rfl ?_
  refine pv_l2iN d_J_bitCount_56 ?_
  refine pv_bipush d_J_bitCount_57 (nI 127) (by decide) ?_
  first | refine pv_iandN d_J_bitCount_59 ?_ | refine pv_iand d_J_bitCount_59 ?_
  refine pv_iret d_J_bitCount_60 ?_
  subst hy3 hy2 hy1
  exact k

set_option maxRecDepth 100000 in
set_option maxHeartbeats 4000000 in
theorem k_O_ring_no {post : Int32 → List va_E → Prop} {x : Int32} (h : x < 0 ∨ nI 5 ≤ x) (k : post (-3) (memX σ ++ ρ)) : pv_M l D ty base b 1 0 0 (fun _ => True) y_O_ring c_O_ring 3 (some .int) [.ref (0 + 1), .int x] (memX σ ++ ρ) (pv_QI D ty base b post) := by
  refine pv_enter [some (.ref (0 + 1)), some (.int x), none] (by decide) (fun _ => rfl) (fun _ => Nat.le_of_ble_eq_true rfl) ?_
  refine pv_iload_n d_O_ring_0 rfl rfl ?_
  refine pv_callS1I d_O_ring_1 (k_O_isNode_no h ?_) sb_O_isNode wm_O_39 ws_O_isNode (by decide) (by decide) (Nat.le_of_ble_eq_true rfl) (by decide) (by decide)
  first | refine pv_ifN_ne 10 (by decide) d_O_ring_4 (by first | assumption | omega) (fun h4 => ?_) (fun h4 => ?_) | refine pv_if_ne 10 (by decide) d_O_ring_4 (fun h4 => ?_) (fun h4 => ?_)
  · exact absurd h4 (by decide)
  · refine pv_bipush d_O_ring_7 (-3) (by decide) ?_
    refine pv_iret d_O_ring_9 ?_
    exact k

set_option maxRecDepth 100000 in
set_option maxHeartbeats 4000000 in
theorem k_O_ring {post : Int32 → List va_E → Prop} {n : Nat} (hn : n < 5) (hb : bX σ) (k : post (a_ring σ n) (memX σ ++ ρ)) : pv_M l D ty base b 1 0 0 (fun _ => True) y_O_ring c_O_ring 3 (some .int) [.ref (0 + 1), .int (nI n)] (memX σ ++ ρ) (pv_QI D ty base b post) := by
  refine pv_enter [some (.ref (0 + 1)), some (.int (nI n)), none] (by decide) (fun _ => rfl) (fun _ => Nat.le_of_ble_eq_true rfl) ?_
  refine pv_iload_n d_O_ring_0 rfl rfl ?_
  refine pv_callS1I d_O_ring_1 (k_O_isNode hn ?_) sb_O_isNode wm_O_39 ws_O_isNode (by decide) (by decide) (Nat.le_of_ble_eq_true rfl) (by decide) (by decide)
  first | refine pv_ifN_ne 10 (by decide) d_O_ring_4 (by first | assumption | omega) (fun h4 => ?_) (fun h4 => ?_) | refine pv_if_ne 10 (by decide) d_O_ring_4 (fun h4 => ?_) (fun h4 => ?_)
  · refine pv_aload_n d_O_ring_10 rfl rfl ?_
    have hb1 : σ 1 n < 7 := hb 1 n
    refine gO_nodes d_O_ring_11 ff_O_11 ?_
    refine pv_iload_n d_O_ring_14 rfl rfl ?_
    refine l_nodes d_O_ring_15 (by first | assumption | omega) ?_
    refine gN_ring d_O_ring_16 ff_O_60 (by first | assumption | omega) ?_
    refine pv_splitX (fun hnull => ?_) (fun rr hring => ?_)
    · refine pv_a0st2 d_O_ring_19 rfl (by decide) ?_
      refine pv_a0load_n d_O_ring_20 rfl rfl ?_
      refine pv_ifnonnullN d_O_ring_21 ?_
      refine pv_bipush d_O_ring_24 (-2) (by decide) ?_
      refine pv_goto 33 (by decide) d_O_ring_26 ?_
      refine pv_iret d_O_ring_33 ?_
      rw [a_ring, hnull] at k
      exact k
    · refine pv_ast2 d_O_ring_19 rfl (by decide) ?_
      refine pv_aload_n d_O_ring_20 rfl rfl ?_
      refine pv_ifnonnull 29 (by decide) d_O_ring_21 ?_
      refine pv_aload_n d_O_ring_29 rfl rfl ?_
      refine gR_number d_O_ring_30 ff_O_118 (by first | assumption | omega) ?_
      refine pv_iret d_O_ring_33 ?_
      rw [a_ring, hring] at k
      exact k
  · refine pv_bipush d_O_ring_7 (-3) (by decide) ?_
    refine pv_iret d_O_ring_9 ?_
    exact absurd h4 (by decide)

set_option maxRecDepth 100000 in
set_option maxHeartbeats 4000000 in
theorem k_O_members_no {post : Int32 → List va_E → Prop} {x : Int32} (h : x < 0 ∨ nI 5 ≤ x) (k : post (-3) (memX σ ++ ρ)) : pv_M l D ty base b 1 0 0 (fun _ => True) y_O_members c_O_members 3 (some .int) [.ref (0 + 1), .int x] (memX σ ++ ρ) (pv_QI D ty base b post) := by
  refine pv_enter [some (.ref (0 + 1)), some (.int x), none] (by decide) (fun _ => rfl) (fun _ => Nat.le_of_ble_eq_true rfl) ?_
  refine pv_iload_n d_O_members_0 rfl rfl ?_
  refine pv_callS1I d_O_members_1 (k_O_isNode_no h ?_) sb_O_isNode wm_O_39 ws_O_isNode (by decide) (by decide) (Nat.le_of_ble_eq_true rfl) (by decide) (by decide)
  first | refine pv_ifN_ne 10 (by decide) d_O_members_4 (by first | assumption | omega) (fun h4 => ?_) (fun h4 => ?_) | refine pv_if_ne 10 (by decide) d_O_members_4 (fun h4 => ?_) (fun h4 => ?_)
  · exact absurd h4 (by decide)
  · refine pv_bipush d_O_members_7 (-3) (by decide) ?_
    refine pv_iret d_O_members_9 ?_
    exact k

set_option maxRecDepth 100000 in
set_option maxHeartbeats 4000000 in
theorem k_O_members {post : Int32 → List va_E → Prop} {n : Nat} (hn : n < 5) (hb : bX σ) (k : post (a_members σ n) (memX σ ++ ρ)) : pv_M l D ty base b 1 0 0 (fun _ => True) y_O_members c_O_members 3 (some .int) [.ref (0 + 1), .int (nI n)] (memX σ ++ ρ) (pv_QI D ty base b post) := by
  refine pv_enter [some (.ref (0 + 1)), some (.int (nI n)), none] (by decide) (fun _ => rfl) (fun _ => Nat.le_of_ble_eq_true rfl) ?_
  refine pv_iload_n d_O_members_0 rfl rfl ?_
  refine pv_callS1I d_O_members_1 (k_O_isNode hn ?_) sb_O_isNode wm_O_39 ws_O_isNode (by decide) (by decide) (Nat.le_of_ble_eq_true rfl) (by decide) (by decide)
  first | refine pv_ifN_ne 10 (by decide) d_O_members_4 (by first | assumption | omega) (fun h4 => ?_) (fun h4 => ?_) | refine pv_if_ne 10 (by decide) d_O_members_4 (fun h4 => ?_) (fun h4 => ?_)
  · refine pv_aload_n d_O_members_10 rfl rfl ?_
    have hb1 : σ 1 n < 7 := hb 1 n
    refine gO_nodes d_O_members_11 ff_O_11 ?_
    refine pv_iload_n d_O_members_14 rfl rfl ?_
    refine l_nodes d_O_members_15 (by first | assumption | omega) ?_
    refine gN_ring d_O_members_16 ff_O_60 (by first | assumption | omega) ?_
    refine pv_splitX (fun hnull => ?_) (fun rr hring => ?_)
    · refine pv_a0st2 d_O_members_19 rfl (by decide) ?_
      refine pv_a0load_n d_O_members_20 rfl rfl ?_
      refine pv_ifnonnullN d_O_members_21 ?_
      refine pv_bipush d_O_members_24 (-2) (by decide) ?_
      refine pv_goto 33 (by decide) d_O_members_26 ?_
      refine pv_iret d_O_members_33 ?_
      rw [a_members, hnull] at k
      exact k
    · refine pv_ast2 d_O_members_19 rfl (by decide) ?_
      refine pv_aload_n d_O_members_20 rfl rfl ?_
      refine pv_ifnonnull 29 (by decide) d_O_members_21 ?_
      refine pv_aload_n d_O_members_29 rfl rfl ?_
      refine gR_members d_O_members_30 ff_O_121 (by first | assumption | omega) ?_
      refine pv_iret d_O_members_33 ?_
      rw [a_members, hring] at k
      exact k
  · refine pv_bipush d_O_members_7 (-3) (by decide) ?_
    refine pv_iret d_O_members_9 ?_
    exact absurd h4 (by decide)

set_option maxRecDepth 100000 in
set_option maxHeartbeats 4000000 in
theorem k_O_token_no {post : Int32 → List va_E → Prop} {x : Int32} (h : x < 0 ∨ nI 5 ≤ x) (k : post (-3) (memX σ ++ ρ)) : pv_M l D ty base b 1 0 0 (fun _ => True) y_O_token c_O_token 3 (some .int) [.ref (0 + 1), .int x] (memX σ ++ ρ) (pv_QI D ty base b post) := by
  refine pv_enter [some (.ref (0 + 1)), some (.int x), none] (by decide) (fun _ => rfl) (fun _ => Nat.le_of_ble_eq_true rfl) ?_
  refine pv_iload_n d_O_token_0 rfl rfl ?_
  refine pv_callS1I d_O_token_1 (k_O_isNode_no h ?_) sb_O_isNode wm_O_39 ws_O_isNode (by decide) (by decide) (Nat.le_of_ble_eq_true rfl) (by decide) (by decide)
  first | refine pv_ifN_ne 10 (by decide) d_O_token_4 (by first | assumption | omega) (fun h4 => ?_) (fun h4 => ?_) | refine pv_if_ne 10 (by decide) d_O_token_4 (fun h4 => ?_) (fun h4 => ?_)
  · exact absurd h4 (by decide)
  · refine pv_bipush d_O_token_7 (-3) (by decide) ?_
    refine pv_iret d_O_token_9 ?_
    exact k

set_option maxRecDepth 100000 in
set_option maxHeartbeats 4000000 in
theorem k_O_token {post : Int32 → List va_E → Prop} {n : Nat} (hn : n < 5) (hb : bX σ) (k : post (a_token σ n) (memX σ ++ ρ)) : pv_M l D ty base b 1 0 0 (fun _ => True) y_O_token c_O_token 3 (some .int) [.ref (0 + 1), .int (nI n)] (memX σ ++ ρ) (pv_QI D ty base b post) := by
  refine pv_enter [some (.ref (0 + 1)), some (.int (nI n)), none] (by decide) (fun _ => rfl) (fun _ => Nat.le_of_ble_eq_true rfl) ?_
  refine pv_iload_n d_O_token_0 rfl rfl ?_
  refine pv_callS1I d_O_token_1 (k_O_isNode hn ?_) sb_O_isNode wm_O_39 ws_O_isNode (by decide) (by decide) (Nat.le_of_ble_eq_true rfl) (by decide) (by decide)
  first | refine pv_ifN_ne 10 (by decide) d_O_token_4 (by first | assumption | omega) (fun h4 => ?_) (fun h4 => ?_) | refine pv_if_ne 10 (by decide) d_O_token_4 (fun h4 => ?_) (fun h4 => ?_)
  · refine pv_aload_n d_O_token_10 rfl rfl ?_
    have hb1 : σ 1 n < 7 := hb 1 n
    refine gO_nodes d_O_token_11 ff_O_11 ?_
    refine pv_iload_n d_O_token_14 rfl rfl ?_
    refine l_nodes d_O_token_15 (by first | assumption | omega) ?_
    refine gN_ring d_O_token_16 ff_O_60 (by first | assumption | omega) ?_
    refine pv_splitX (fun hnull => ?_) (fun rr hring => ?_)
    · refine pv_a0st2 d_O_token_19 rfl (by decide) ?_
      refine pv_a0load_n d_O_token_20 rfl rfl ?_
      refine pv_ifnonnullN d_O_token_21 ?_
      refine pv_bipush d_O_token_24 (-2) (by decide) ?_
      refine pv_iret d_O_token_26 ?_
      simp only [a_token, hnull] at k
      exact k
    · refine pv_ast2 d_O_token_19 rfl (by decide) ?_
      refine pv_aload_n d_O_token_20 rfl rfl ?_
      refine pv_ifnonnull 27 (by decide) d_O_token_21 ?_
      refine pv_aload_n d_O_token_27 rfl rfl ?_
      refine pv_callV0I d_O_token_28 (k_R_isTokenLost (by first | assumption | omega) hb ?_) sb_R_isTokenLost wm_O_115 (gx_R (by first | assumption | omega)) rfl ⟨wi_R_isTokenLost, we_R_isTokenLost⟩ (by decide) (by decide) (Nat.le_of_ble_eq_true rfl) (by decide) (by decide)
      have hbb := b2_lt (decide (σ 12 rr = 0))
      first | refine pv_ifN_eq 38 (by decide) d_O_token_31 (by first | assumption | omega) (fun h31 => ?_) (fun h31 => ?_) | refine pv_if_eq 38 (by decide) d_O_token_31 (fun h31 => ?_) (fun h31 => ?_)
      · refine pv_aload_n d_O_token_38 rfl rfl ?_
        refine gR_tokenAt d_O_token_39 ff_O_64 (by first | assumption | omega) ?_
        refine pv_iret d_O_token_42 ?_
        simp only [a_token, hring, if_neg (of_decide_eq_false (b2_0.mp h31))] at k
        exact k
      · refine pv_iconst d_O_token_34 (-1) (by decide) ?_
        refine pv_goto 42 (by decide) d_O_token_35 ?_
        refine pv_iret d_O_token_42 ?_
        simp only [a_token, hring, if_pos (of_decide_eq_true (b2_n0.mp h31))] at k
        exact k
  · refine pv_bipush d_O_token_7 (-3) (by decide) ?_
    refine pv_iret d_O_token_9 ?_
    exact absurd h4 (by decide)

set_option maxRecDepth 100000 in
set_option maxHeartbeats 4000000 in
theorem k_O_last_no {post : Int32 → List va_E → Prop} {x : Int32} (h : x < 0 ∨ nI 5 ≤ x) (k : post (-3) (memX σ ++ ρ)) : pv_M l D ty base b 1 0 0 (fun _ => True) y_O_last c_O_last 3 (some .int) [.ref (0 + 1), .int x] (memX σ ++ ρ) (pv_QI D ty base b post) := by
  refine pv_enter [some (.ref (0 + 1)), some (.int x), none] (by decide) (fun _ => rfl) (fun _ => Nat.le_of_ble_eq_true rfl) ?_
  refine pv_iload_n d_O_last_0 rfl rfl ?_
  refine pv_callS1I d_O_last_1 (k_O_isNode_no h ?_) sb_O_isNode wm_O_39 ws_O_isNode (by decide) (by decide) (Nat.le_of_ble_eq_true rfl) (by decide) (by decide)
  first | refine pv_ifN_ne 10 (by decide) d_O_last_4 (by first | assumption | omega) (fun h4 => ?_) (fun h4 => ?_) | refine pv_if_ne 10 (by decide) d_O_last_4 (fun h4 => ?_) (fun h4 => ?_)
  · exact absurd h4 (by decide)
  · refine pv_bipush d_O_last_7 (-3) (by decide) ?_
    refine pv_iret d_O_last_9 ?_
    exact k

set_option maxRecDepth 100000 in
set_option maxHeartbeats 4000000 in
theorem k_O_last {post : Int32 → List va_E → Prop} {n : Nat} (hn : n < 5) (hb : bX σ) (k : post (a_last σ n) (memX σ ++ ρ)) : pv_M l D ty base b 1 0 0 (fun _ => True) y_O_last c_O_last 3 (some .int) [.ref (0 + 1), .int (nI n)] (memX σ ++ ρ) (pv_QI D ty base b post) := by
  refine pv_enter [some (.ref (0 + 1)), some (.int (nI n)), none] (by decide) (fun _ => rfl) (fun _ => Nat.le_of_ble_eq_true rfl) ?_
  refine pv_iload_n d_O_last_0 rfl rfl ?_
  refine pv_callS1I d_O_last_1 (k_O_isNode hn ?_) sb_O_isNode wm_O_39 ws_O_isNode (by decide) (by decide) (Nat.le_of_ble_eq_true rfl) (by decide) (by decide)
  first | refine pv_ifN_ne 10 (by decide) d_O_last_4 (by first | assumption | omega) (fun h4 => ?_) (fun h4 => ?_) | refine pv_if_ne 10 (by decide) d_O_last_4 (fun h4 => ?_) (fun h4 => ?_)
  · refine pv_aload_n d_O_last_10 rfl rfl ?_
    have hb1 : σ 1 n < 7 := hb 1 n
    refine gO_nodes d_O_last_11 ff_O_11 ?_
    refine pv_iload_n d_O_last_14 rfl rfl ?_
    refine l_nodes d_O_last_15 (by first | assumption | omega) ?_
    refine gN_ring d_O_last_16 ff_O_60 (by first | assumption | omega) ?_
    refine pv_splitX (fun hnull => ?_) (fun rr hring => ?_)
    · refine pv_a0st2 d_O_last_19 rfl (by decide) ?_
      refine pv_a0load_n d_O_last_20 rfl rfl ?_
      refine pv_ifnonnullN d_O_last_21 ?_
      refine pv_bipush d_O_last_24 (-2) (by decide) ?_
      refine pv_iret d_O_last_26 ?_
      simp only [a_last, hnull] at k
      exact k
    · refine pv_ast2 d_O_last_19 rfl (by decide) ?_
      refine pv_aload_n d_O_last_20 rfl rfl ?_
      refine pv_ifnonnull 27 (by decide) d_O_last_21 ?_
      refine pv_aload_n d_O_last_27 rfl rfl ?_
      refine pv_callV0I d_O_last_28 (k_R_isTokenLost (by first | assumption | omega) hb ?_) sb_R_isTokenLost wm_O_115 (gx_R (by first | assumption | omega)) rfl ⟨wi_R_isTokenLost, we_R_isTokenLost⟩ (by decide) (by decide) (Nat.le_of_ble_eq_true rfl) (by decide) (by decide)
      have hbb := b2_lt (decide (σ 12 rr = 0))
      first | refine pv_ifN_eq 38 (by decide) d_O_last_31 (by first | assumption | omega) (fun h31 => ?_) (fun h31 => ?_) | refine pv_if_eq 38 (by decide) d_O_last_31 (fun h31 => ?_) (fun h31 => ?_)
      · refine pv_aload_n d_O_last_38 rfl rfl ?_
        refine gR_last d_O_last_39 ff_O_124 (by first | assumption | omega) ?_
        refine pv_iret d_O_last_42 ?_
        simp only [a_last, hring, if_neg (of_decide_eq_false (b2_0.mp h31))] at k
        exact k
      · refine pv_iconst d_O_last_34 (-1) (by decide) ?_
        refine pv_goto 42 (by decide) d_O_last_35 ?_
        refine pv_iret d_O_last_42 ?_
        simp only [a_last, hring, if_pos (of_decide_eq_true (b2_n0.mp h31))] at k
        exact k
  · refine pv_bipush d_O_last_7 (-3) (by decide) ?_
    refine pv_iret d_O_last_9 ?_
    exact absurd h4 (by decide)

set_option maxRecDepth 100000 in
set_option maxHeartbeats 4000000 in
theorem k_O_requests_no {post : Int32 → List va_E → Prop} {x : Int32} (h : x < 0 ∨ nI 5 ≤ x) (k : post (-3) (memX σ ++ ρ)) : pv_M l D ty base b 1 0 0 (fun _ => True) y_O_requests c_O_requests 3 (some .int) [.ref (0 + 1), .int x] (memX σ ++ ρ) (pv_QI D ty base b post) := by
  refine pv_enter [some (.ref (0 + 1)), some (.int x), none] (by decide) (fun _ => rfl) (fun _ => Nat.le_of_ble_eq_true rfl) ?_
  refine pv_iload_n d_O_requests_0 rfl rfl ?_
  refine pv_callS1I d_O_requests_1 (k_O_isNode_no h ?_) sb_O_isNode wm_O_39 ws_O_isNode (by decide) (by decide) (Nat.le_of_ble_eq_true rfl) (by decide) (by decide)
  first | refine pv_ifN_ne 10 (by decide) d_O_requests_4 (by first | assumption | omega) (fun h4 => ?_) (fun h4 => ?_) | refine pv_if_ne 10 (by decide) d_O_requests_4 (fun h4 => ?_) (fun h4 => ?_)
  · exact absurd h4 (by decide)
  · refine pv_bipush d_O_requests_7 (-3) (by decide) ?_
    refine pv_iret d_O_requests_9 ?_
    exact k

set_option maxRecDepth 100000 in
set_option maxHeartbeats 4000000 in
theorem k_O_requests {post : Int32 → List va_E → Prop} {n : Nat} (hn : n < 5) (hb : bX σ) (k : post (a_requests σ n) (memX σ ++ ρ)) : pv_M l D ty base b 1 0 0 (fun _ => True) y_O_requests c_O_requests 3 (some .int) [.ref (0 + 1), .int (nI n)] (memX σ ++ ρ) (pv_QI D ty base b post) := by
  refine pv_enter [some (.ref (0 + 1)), some (.int (nI n)), none] (by decide) (fun _ => rfl) (fun _ => Nat.le_of_ble_eq_true rfl) ?_
  refine pv_iload_n d_O_requests_0 rfl rfl ?_
  refine pv_callS1I d_O_requests_1 (k_O_isNode hn ?_) sb_O_isNode wm_O_39 ws_O_isNode (by decide) (by decide) (Nat.le_of_ble_eq_true rfl) (by decide) (by decide)
  first | refine pv_ifN_ne 10 (by decide) d_O_requests_4 (by first | assumption | omega) (fun h4 => ?_) (fun h4 => ?_) | refine pv_if_ne 10 (by decide) d_O_requests_4 (fun h4 => ?_) (fun h4 => ?_)
  · refine pv_aload_n d_O_requests_10 rfl rfl ?_
    have hb1 : σ 1 n < 7 := hb 1 n
    refine gO_nodes d_O_requests_11 ff_O_11 ?_
    refine pv_iload_n d_O_requests_14 rfl rfl ?_
    refine l_nodes d_O_requests_15 (by first | assumption | omega) ?_
    refine gN_ring d_O_requests_16 ff_O_60 (by first | assumption | omega) ?_
    refine pv_splitX (fun hnull => ?_) (fun rr hring => ?_)
    · refine pv_a0st2 d_O_requests_19 rfl (by decide) ?_
      refine pv_a0load_n d_O_requests_20 rfl rfl ?_
      refine pv_ifnonnullN d_O_requests_21 ?_
      refine pv_bipush d_O_requests_24 (-2) (by decide) ?_
      refine pv_iret d_O_requests_26 ?_
      simp only [a_requests, hnull] at k
      exact k
    · refine pv_ast2 d_O_requests_19 rfl (by decide) ?_
      refine pv_aload_n d_O_requests_20 rfl rfl ?_
      refine pv_ifnonnull 27 (by decide) d_O_requests_21 ?_
      refine pv_aload_n d_O_requests_27 rfl rfl ?_
      refine pv_callV0I d_O_requests_28 (k_R_isTokenLost (by first | assumption | omega) hb ?_) sb_R_isTokenLost wm_O_115 (gx_R (by first | assumption | omega)) rfl ⟨wi_R_isTokenLost, we_R_isTokenLost⟩ (by decide) (by decide) (Nat.le_of_ble_eq_true rfl) (by decide) (by decide)
      have hbb := b2_lt (decide (σ 12 rr = 0))
      first | refine pv_ifN_eq 38 (by decide) d_O_requests_31 (by first | assumption | omega) (fun h31 => ?_) (fun h31 => ?_) | refine pv_if_eq 38 (by decide) d_O_requests_31 (fun h31 => ?_) (fun h31 => ?_)
      · refine pv_aload_n d_O_requests_38 rfl rfl ?_
        refine gR_requests d_O_requests_39 ff_O_127 (by first | assumption | omega) ?_
        refine pv_callS1I d_O_requests_42 (k_J_bitCount (Nat.lt_trans (hb 14 rr) (by decide)) ?_) sb_J_bitCount wm_O_131 ws_J_bitCount (by decide) (by decide) (Nat.le_of_ble_eq_true rfl) (by decide) (by decide)
        refine pv_iret d_O_requests_45 ?_
        simp only [a_requests, hring, if_neg (of_decide_eq_false (b2_0.mp h31))] at k
        exact k
      · refine pv_iconst d_O_requests_34 (-1) (by decide) ?_
        refine pv_goto 45 (by decide) d_O_requests_35 ?_
        refine pv_iret d_O_requests_45 ?_
        simp only [a_requests, hring, if_pos (of_decide_eq_true (b2_n0.mp h31))] at k
        exact k
  · refine pv_bipush d_O_requests_7 (-3) (by decide) ?_
    refine pv_iret d_O_requests_9 ?_
    exact absurd h4 (by decide)

set_option maxRecDepth 100000 in
set_option maxHeartbeats 4000000 in
theorem k_O_reach_no {post : Int32 → List va_E → Prop} {x : Int32} (h : x < 0 ∨ nI 5 ≤ x) (k : post (-3) (memX σ ++ ρ)) : pv_M l D ty base b 2 0 0 (fun _ => True) y_O_reach c_O_reach 3 (some .int) [.ref (0 + 1), .int x] (memX σ ++ ρ) (pv_QI D ty base b post) := by
  refine pv_enter [some (.ref (0 + 1)), some (.int x), none] (by decide) (fun _ => rfl) (fun _ => Nat.le_of_ble_eq_true rfl) ?_
  refine pv_iload_n d_O_reach_0 rfl rfl ?_
  refine pv_callS1I d_O_reach_1 (k_O_isNode_no h ?_) sb_O_isNode wm_O_39 ws_O_isNode (by decide) (by decide) (Nat.le_of_ble_eq_true rfl) (by decide) (by decide)
  first | refine pv_ifN_ne 10 (by decide) d_O_reach_4 (by first | assumption | omega) (fun h4 => ?_) (fun h4 => ?_) | refine pv_if_ne 10 (by decide) d_O_reach_4 (fun h4 => ?_) (fun h4 => ?_)
  · exact absurd h4 (by decide)
  · refine pv_bipush d_O_reach_7 (-3) (by decide) ?_
    refine pv_iret d_O_reach_9 ?_
    exact k

set_option maxRecDepth 100000 in
set_option maxHeartbeats 4000000 in
theorem k_O_reach {post : Int32 → List va_E → Prop} {n : Nat} (hn : n < 5) (hb : bX σ) (k : post (a_reach σ n) (memX σ ++ ρ)) : pv_M l D ty base b 2 0 0 (fun _ => True) y_O_reach c_O_reach 3 (some .int) [.ref (0 + 1), .int (nI n)] (memX σ ++ ρ) (pv_QI D ty base b post) := by
  refine pv_enter [some (.ref (0 + 1)), some (.int (nI n)), none] (by decide) (fun _ => rfl) (fun _ => Nat.le_of_ble_eq_true rfl) ?_
  refine pv_iload_n d_O_reach_0 rfl rfl ?_
  refine pv_callS1I d_O_reach_1 (k_O_isNode hn ?_) sb_O_isNode wm_O_39 ws_O_isNode (by decide) (by decide) (Nat.le_of_ble_eq_true rfl) (by decide) (by decide)
  first | refine pv_ifN_ne 10 (by decide) d_O_reach_4 (by first | assumption | omega) (fun h4 => ?_) (fun h4 => ?_) | refine pv_if_ne 10 (by decide) d_O_reach_4 (fun h4 => ?_) (fun h4 => ?_)
  · refine pv_aload_n d_O_reach_10 rfl rfl ?_
    refine gO_nodes d_O_reach_11 ff_O_11 ?_
    refine pv_iload_n d_O_reach_14 rfl rfl ?_
    refine l_nodes d_O_reach_15 (by first | assumption | omega) ?_
    refine pv_ast2 d_O_reach_16 rfl (by decide) ?_
    refine pv_aload_n d_O_reach_17 rfl rfl ?_
    refine pv_callV0I d_O_reach_18 (k_N_isUp hn ?_) sb_N_isUp wm_O_43 (gx_N (by first | assumption | omega)) rfl ⟨wi_N_isUp, we_N_isUp⟩ (by decide) (by decide) (Nat.le_of_ble_eq_true rfl) (by decide) (by decide)
    have hbb := b2_lt (decide (σ 1 n ≠ 0))
    first | refine pv_ifN_eq 31 (by decide) d_O_reach_21 (by first | assumption | omega) (fun h21 => ?_) (fun h21 => ?_) | refine pv_if_eq 31 (by decide) d_O_reach_21 (fun h21 => ?_) (fun h21 => ?_)
    · refine pv_bipush d_O_reach_31 (-2) (by decide) ?_
      refine pv_iret d_O_reach_33 ?_
      rw [a_reach, if_pos (Decidable.not_not.mp (of_decide_eq_false (b2_0.mp h21)))] at k
      exact k
    · refine pv_aload_n d_O_reach_24 rfl rfl ?_
      refine pv_callV0I d_O_reach_25 (k_N_heldWithoutGap hn hb ?_) sb_N_heldWithoutGap wm_O_137 (gx_N (by first | assumption | omega)) rfl ⟨wi_N_heldWithoutGap, we_N_heldWithoutGap⟩ (by decide) (by decide) (Nat.le_of_ble_eq_true rfl) (by decide) (by decide)
      refine pv_goto 33 (by decide) d_O_reach_28 ?_
      refine pv_iret d_O_reach_33 ?_
      rw [a_reach, if_neg (of_decide_eq_true (b2_n0.mp h21))] at k
      exact k
  · refine pv_bipush d_O_reach_7 (-3) (by decide) ?_
    refine pv_iret d_O_reach_9 ?_
    exact absurd h4 (by decide)

set_option maxRecDepth 100000 in
set_option maxHeartbeats 4000000 in
theorem k_O_line_no {post : Int32 → List va_E → Prop} {x : Int32} (h : x < 0 ∨ nI 5 ≤ x) (k : post (-3) (memX σ ++ ρ)) : pv_M l D ty base b 1 0 0 (fun _ => True) y_O_line c_O_line 3 (some .int) [.ref (0 + 1), .int x] (memX σ ++ ρ) (pv_QI D ty base b post) := by
  refine pv_enter [some (.ref (0 + 1)), some (.int x), none] (by decide) (fun _ => rfl) (fun _ => Nat.le_of_ble_eq_true rfl) ?_
  refine pv_iload_n d_O_line_0 rfl rfl ?_
  refine pv_callS1I d_O_line_1 (k_O_isNode_no h ?_) sb_O_isNode wm_O_39 ws_O_isNode (by decide) (by decide) (Nat.le_of_ble_eq_true rfl) (by decide) (by decide)
  first | refine pv_ifN_ne 10 (by decide) d_O_line_4 (by first | assumption | omega) (fun h4 => ?_) (fun h4 => ?_) | refine pv_if_ne 10 (by decide) d_O_line_4 (fun h4 => ?_) (fun h4 => ?_)
  · exact absurd h4 (by decide)
  · refine pv_bipush d_O_line_7 (-3) (by decide) ?_
    refine pv_iret d_O_line_9 ?_
    exact k

set_option maxRecDepth 100000 in
set_option maxHeartbeats 4000000 in
theorem k_O_line {post : Int32 → List va_E → Prop} {n : Nat} (hn : n < 5) (hb : bX σ) (k : post (a_line σ n) (memX σ ++ ρ)) : pv_M l D ty base b 1 0 0 (fun _ => True) y_O_line c_O_line 3 (some .int) [.ref (0 + 1), .int (nI n)] (memX σ ++ ρ) (pv_QI D ty base b post) := by
  refine pv_enter [some (.ref (0 + 1)), some (.int (nI n)), none] (by decide) (fun _ => rfl) (fun _ => Nat.le_of_ble_eq_true rfl) ?_
  refine pv_iload_n d_O_line_0 rfl rfl ?_
  refine pv_callS1I d_O_line_1 (k_O_isNode hn ?_) sb_O_isNode wm_O_39 ws_O_isNode (by decide) (by decide) (Nat.le_of_ble_eq_true rfl) (by decide) (by decide)
  first | refine pv_ifN_ne 10 (by decide) d_O_line_4 (by first | assumption | omega) (fun h4 => ?_) (fun h4 => ?_) | refine pv_if_ne 10 (by decide) d_O_line_4 (fun h4 => ?_) (fun h4 => ?_)
  · refine pv_aload_n d_O_line_10 rfl rfl ?_
    refine gO_nodes d_O_line_11 ff_O_11 ?_
    refine pv_iload_n d_O_line_14 rfl rfl ?_
    refine l_nodes d_O_line_15 (by first | assumption | omega) ?_
    refine pv_ast2 d_O_line_16 rfl (by decide) ?_
    refine pv_aload_n d_O_line_17 rfl rfl ?_
    refine pv_callV0I d_O_line_18 (k_N_isUp hn ?_) sb_N_isUp wm_O_43 (gx_N (by first | assumption | omega)) rfl ⟨wi_N_isUp, we_N_isUp⟩ (by decide) (by decide) (Nat.le_of_ble_eq_true rfl) (by decide) (by decide)
    have hbb := b2_lt (decide (σ 1 n ≠ 0))
    first | refine pv_ifN_eq 31 (by decide) d_O_line_21 (by first | assumption | omega) (fun h21 => ?_) (fun h21 => ?_) | refine pv_if_eq 31 (by decide) d_O_line_21 (fun h21 => ?_) (fun h21 => ?_)
    · refine pv_bipush d_O_line_31 (-2) (by decide) ?_
      refine pv_iret d_O_line_33 ?_
      rw [a_line, if_pos (Decidable.not_not.mp (of_decide_eq_false (b2_0.mp h21)))] at k
      exact k
    · refine pv_aload_n d_O_line_24 rfl rfl ?_
      refine gN_line d_O_line_25 ff_O_82 (by first | assumption | omega) ?_
      refine pv_goto 33 (by decide) d_O_line_28 ?_
      refine pv_iret d_O_line_33 ?_
      rw [a_line, if_neg (of_decide_eq_true (b2_n0.mp h21))] at k
      exact k
  · refine pv_bipush d_O_line_7 (-3) (by decide) ?_
    refine pv_iret d_O_line_9 ?_
    exact absurd h4 (by decide)

set_option maxRecDepth 100000 in
set_option maxHeartbeats 4000000 in
theorem k_O_waiting_no {post : Int32 → List va_E → Prop} {x : Int32} (h : x < 0 ∨ nI 5 ≤ x) (k : post (-3) (memX σ ++ ρ)) : pv_M l D ty base b 1 0 0 (fun _ => True) y_O_waiting c_O_waiting 3 (some .int) [.ref (0 + 1), .int x] (memX σ ++ ρ) (pv_QI D ty base b post) := by
  refine pv_enter [some (.ref (0 + 1)), some (.int x), none] (by decide) (fun _ => rfl) (fun _ => Nat.le_of_ble_eq_true rfl) ?_
  refine pv_iload_n d_O_waiting_0 rfl rfl ?_
  refine pv_callS1I d_O_waiting_1 (k_O_isNode_no h ?_) sb_O_isNode wm_O_39 ws_O_isNode (by decide) (by decide) (Nat.le_of_ble_eq_true rfl) (by decide) (by decide)
  first | refine pv_ifN_ne 10 (by decide) d_O_waiting_4 (by first | assumption | omega) (fun h4 => ?_) (fun h4 => ?_) | refine pv_if_ne 10 (by decide) d_O_waiting_4 (fun h4 => ?_) (fun h4 => ?_)
  · exact absurd h4 (by decide)
  · refine pv_bipush d_O_waiting_7 (-3) (by decide) ?_
    refine pv_iret d_O_waiting_9 ?_
    exact k

set_option maxRecDepth 100000 in
set_option maxHeartbeats 4000000 in
theorem k_O_waiting {post : Int32 → List va_E → Prop} {n : Nat} (hn : n < 5) (hb : bX σ) (k : post (a_waiting σ n) (memX σ ++ ρ)) : pv_M l D ty base b 1 0 0 (fun _ => True) y_O_waiting c_O_waiting 3 (some .int) [.ref (0 + 1), .int (nI n)] (memX σ ++ ρ) (pv_QI D ty base b post) := by
  refine pv_enter [some (.ref (0 + 1)), some (.int (nI n)), none] (by decide) (fun _ => rfl) (fun _ => Nat.le_of_ble_eq_true rfl) ?_
  refine pv_iload_n d_O_waiting_0 rfl rfl ?_
  refine pv_callS1I d_O_waiting_1 (k_O_isNode hn ?_) sb_O_isNode wm_O_39 ws_O_isNode (by decide) (by decide) (Nat.le_of_ble_eq_true rfl) (by decide) (by decide)
  first | refine pv_ifN_ne 10 (by decide) d_O_waiting_4 (by first | assumption | omega) (fun h4 => ?_) (fun h4 => ?_) | refine pv_if_ne 10 (by decide) d_O_waiting_4 (fun h4 => ?_) (fun h4 => ?_)
  · refine pv_aload_n d_O_waiting_10 rfl rfl ?_
    refine gO_nodes d_O_waiting_11 ff_O_11 ?_
    refine pv_iload_n d_O_waiting_14 rfl rfl ?_
    refine l_nodes d_O_waiting_15 (by first | assumption | omega) ?_
    refine pv_ast2 d_O_waiting_16 rfl (by decide) ?_
    refine pv_aload_n d_O_waiting_17 rfl rfl ?_
    refine pv_callV0I d_O_waiting_18 (k_N_isUp hn ?_) sb_N_isUp wm_O_43 (gx_N (by first | assumption | omega)) rfl ⟨wi_N_isUp, we_N_isUp⟩ (by decide) (by decide) (Nat.le_of_ble_eq_true rfl) (by decide) (by decide)
    have hbb := b2_lt (decide (σ 1 n ≠ 0))
    first | refine pv_ifN_eq 31 (by decide) d_O_waiting_21 (by first | assumption | omega) (fun h21 => ?_) (fun h21 => ?_) | refine pv_if_eq 31 (by decide) d_O_waiting_21 (fun h21 => ?_) (fun h21 => ?_)
    · refine pv_bipush d_O_waiting_31 (-2) (by decide) ?_
      refine pv_iret d_O_waiting_33 ?_
      rw [a_waiting, if_pos (Decidable.not_not.mp (of_decide_eq_false (b2_0.mp h21)))] at k
      exact k
    · refine pv_aload_n d_O_waiting_24 rfl rfl ?_
      refine gN_queued d_O_waiting_25 ff_O_50 (by first | assumption | omega) ?_
      refine pv_goto 33 (by decide) d_O_waiting_28 ?_
      refine pv_iret d_O_waiting_33 ?_
      rw [a_waiting, if_neg (of_decide_eq_true (b2_n0.mp h21))] at k
      exact k
  · refine pv_bipush d_O_waiting_7 (-3) (by decide) ?_
    refine pv_iret d_O_waiting_9 ?_
    exact absurd h4 (by decide)

set_option maxRecDepth 100000 in
set_option maxHeartbeats 4000000 in
theorem k_O_delivered_no {post : Int32 → List va_E → Prop} {x : Int32} (h : x < 0 ∨ nI 5 ≤ x) (k : post (-3) (memX σ ++ ρ)) : pv_M l D ty base b 1 0 0 (fun _ => True) y_O_delivered c_O_delivered 2 (some .int) [.ref (0 + 1), .int x] (memX σ ++ ρ) (pv_QI D ty base b post) := by
  refine pv_enter [some (.ref (0 + 1)), some (.int x)] (by decide) (fun _ => rfl) (fun _ => Nat.le_of_ble_eq_true rfl) ?_
  refine pv_iload_n d_O_delivered_0 rfl rfl ?_
  refine pv_callS1I d_O_delivered_1 (k_O_isNode_no h ?_) sb_O_isNode wm_O_39 ws_O_isNode (by decide) (by decide) (Nat.le_of_ble_eq_true rfl) (by decide) (by decide)
  first | refine pv_ifN_eq 19 (by decide) d_O_delivered_4 (by first | assumption | omega) (fun h4 => ?_) (fun h4 => ?_) | refine pv_if_eq 19 (by decide) d_O_delivered_4 (fun h4 => ?_) (fun h4 => ?_)
  · refine pv_bipush d_O_delivered_19 (-3) (by decide) ?_
    refine pv_iret d_O_delivered_21 ?_
    exact k
  · exact absurd rfl h4

set_option maxRecDepth 100000 in
set_option maxHeartbeats 4000000 in
theorem k_O_delivered {post : Int32 → List va_E → Prop} {n : Nat} (hn : n < 5) (k : post (nI (σ 4 n)) (memX σ ++ ρ)) : pv_M l D ty base b 1 0 0 (fun _ => True) y_O_delivered c_O_delivered 2 (some .int) [.ref (0 + 1), .int (nI n)] (memX σ ++ ρ) (pv_QI D ty base b post) := by
  refine pv_enter [some (.ref (0 + 1)), some (.int (nI n))] (by decide) (fun _ => rfl) (fun _ => Nat.le_of_ble_eq_true rfl) ?_
  refine pv_iload_n d_O_delivered_0 rfl rfl ?_
  refine pv_callS1I d_O_delivered_1 (k_O_isNode hn ?_) sb_O_isNode wm_O_39 ws_O_isNode (by decide) (by decide) (Nat.le_of_ble_eq_true rfl) (by decide) (by decide)
  first | refine pv_ifN_eq 19 (by decide) d_O_delivered_4 (by first | assumption | omega) (fun h4 => ?_) (fun h4 => ?_) | refine pv_if_eq 19 (by decide) d_O_delivered_4 (fun h4 => ?_) (fun h4 => ?_)
  · refine pv_bipush d_O_delivered_19 (-3) (by decide) ?_
    refine pv_iret d_O_delivered_21 ?_
    exact absurd h4 (by decide)
  · refine pv_aload_n d_O_delivered_7 rfl rfl ?_
    refine gO_nodes d_O_delivered_8 ff_O_11 ?_
    refine pv_iload_n d_O_delivered_11 rfl rfl ?_
    refine l_nodes d_O_delivered_12 (by first | assumption | omega) ?_
    refine gN_logged d_O_delivered_13 ff_O_140 (by first | assumption | omega) ?_
    refine pv_goto 21 (by decide) d_O_delivered_16 ?_
    refine pv_iret d_O_delivered_21 ?_
    exact k

set_option maxRecDepth 100000 in
set_option maxHeartbeats 4000000 in
theorem k_O_log_no {post : Int32 → List va_E → Prop} {x y : Int32} (h : x < 0 ∨ nI 5 ≤ x) (k : post (-3) (memX σ ++ ρ)) : pv_M l D ty base b 1 0 0 (fun _ => True) y_O_log c_O_log 4 (some .int) [.ref (0 + 1), .int x, .int y] (memX σ ++ ρ) (pv_QI D ty base b post) := by
  refine pv_enter [some (.ref (0 + 1)), some (.int x), some (.int y), none] (by decide) (fun _ => rfl) (fun _ => Nat.le_of_ble_eq_true rfl) ?_
  refine pv_iload_n d_O_log_0 rfl rfl ?_
  refine pv_callS1I d_O_log_1 (k_O_isNode_no h ?_) sb_O_isNode wm_O_39 ws_O_isNode (by decide) (by decide) (Nat.le_of_ble_eq_true rfl) (by decide) (by decide)
  first | refine pv_ifN_ne 10 (by decide) d_O_log_4 (by first | assumption | omega) (fun h4 => ?_) (fun h4 => ?_) | refine pv_if_ne 10 (by decide) d_O_log_4 (fun h4 => ?_) (fun h4 => ?_)
  · exact absurd h4 (by decide)
  · refine pv_bipush d_O_log_7 (-3) (by decide) ?_
    refine pv_iret d_O_log_9 ?_
    exact k

set_option maxRecDepth 100000 in
set_option maxHeartbeats 4000000 in
theorem k_O_log_out {post : Int32 → List va_E → Prop} {n : Nat} {y : Int32} (hn : n < 5) (hy : y < 0 ∨ nI (σ 4 n) ≤ y) (k : post (-3) (memX σ ++ ρ)) : pv_M l D ty base b 1 0 0 (fun _ => True) y_O_log c_O_log 4 (some .int) [.ref (0 + 1), .int (nI n), .int y] (memX σ ++ ρ) (pv_QI D ty base b post) := by
  refine pv_enter [some (.ref (0 + 1)), some (.int (nI n)), some (.int y), none] (by decide) (fun _ => rfl) (fun _ => Nat.le_of_ble_eq_true rfl) ?_
  refine pv_iload_n d_O_log_0 rfl rfl ?_
  refine pv_callS1I d_O_log_1 (k_O_isNode hn ?_) sb_O_isNode wm_O_39 ws_O_isNode (by decide) (by decide) (Nat.le_of_ble_eq_true rfl) (by decide) (by decide)
  first | refine pv_ifN_ne 10 (by decide) d_O_log_4 (by first | assumption | omega) (fun h4 => ?_) (fun h4 => ?_) | refine pv_if_ne 10 (by decide) d_O_log_4 (fun h4 => ?_) (fun h4 => ?_)
  · refine pv_aload_n d_O_log_10 rfl rfl ?_
    refine gO_nodes d_O_log_11 ff_O_11 ?_
    refine pv_iload_n d_O_log_14 rfl rfl ?_
    refine l_nodes d_O_log_15 (by first | assumption | omega) ?_
    refine pv_ast3 d_O_log_16 rfl (by decide) ?_
    refine pv_iload_n d_O_log_17 rfl rfl ?_
    refine pv_if_lt 29 (by decide) d_O_log_18 (fun h18 => ?_) (fun h18 => ?_)
    · refine pv_bipush d_O_log_29 (-3) (by decide) ?_
      refine pv_iret d_O_log_31 ?_
      exact k
    · refine pv_iload_n d_O_log_21 rfl rfl ?_
      refine pv_aload_n d_O_log_22 rfl rfl ?_
      refine gN_logged d_O_log_23 ff_O_140 (by first | assumption | omega) ?_
      first | refine pv_icmpN_lt 32 (by decide) d_O_log_26 (by first | assumption | omega) (by first | assumption | omega) (fun h26 => ?_) (fun h26 => ?_) | refine pv_icmp_lt 32 (by decide) d_O_log_26 (fun h26 => ?_) (fun h26 => ?_)
      · exact absurd hy (by intro q; rcases q with q | q
                            · exact h18 q
                            · exact absurd h26 (Int32.not_lt.mpr q))
      · refine pv_bipush d_O_log_29 (-3) (by decide) ?_
        refine pv_iret d_O_log_31 ?_
        exact k
  · refine pv_bipush d_O_log_7 (-3) (by decide) ?_
    refine pv_iret d_O_log_9 ?_
    exact absurd h4 (by decide)

set_option maxRecDepth 100000 in
set_option maxHeartbeats 4000000 in
theorem k_O_log {post : Int32 → List va_E → Prop} {n j : Nat} (hn : n < 5) (hb : bX σ) (hj : j < σ 4 n) (k : post (nI (σ (30 + n) j)) (memX σ ++ ρ)) : pv_M l D ty base b 1 0 0 (fun _ => True) y_O_log c_O_log 4 (some .int) [.ref (0 + 1), .int (nI n), .int (nI j)] (memX σ ++ ρ) (pv_QI D ty base b post) := by
  refine pv_enter [some (.ref (0 + 1)), some (.int (nI n)), some (.int (nI j)), none] (by decide) (fun _ => rfl) (fun _ => Nat.le_of_ble_eq_true rfl) ?_
  have h4n : σ 4 n < 49 := hb 4 n
  refine pv_iload_n d_O_log_0 rfl rfl ?_
  refine pv_callS1I d_O_log_1 (k_O_isNode hn ?_) sb_O_isNode wm_O_39 ws_O_isNode (by decide) (by decide) (Nat.le_of_ble_eq_true rfl) (by decide) (by decide)
  first | refine pv_ifN_ne 10 (by decide) d_O_log_4 (by first | assumption | omega) (fun h4 => ?_) (fun h4 => ?_) | refine pv_if_ne 10 (by decide) d_O_log_4 (fun h4 => ?_) (fun h4 => ?_)
  · refine pv_aload_n d_O_log_10 rfl rfl ?_
    refine gO_nodes d_O_log_11 ff_O_11 ?_
    refine pv_iload_n d_O_log_14 rfl rfl ?_
    refine l_nodes d_O_log_15 (by first | assumption | omega) ?_
    refine pv_ast3 d_O_log_16 rfl (by decide) ?_
    refine pv_iload_n d_O_log_17 rfl rfl ?_
    refine pv_if_lt 29 (by decide) d_O_log_18 (fun h18 => ?_) (fun h18 => ?_)
    · refine pv_bipush d_O_log_29 (-3) (by decide) ?_
      refine pv_iret d_O_log_31 ?_
      exact absurd h18 (nI_pos (by omega))
    · refine pv_iload_n d_O_log_21 rfl rfl ?_
      refine pv_aload_n d_O_log_22 rfl rfl ?_
      refine gN_logged d_O_log_23 ff_O_140 (by first | assumption | omega) ?_
      first | refine pv_icmpN_lt 32 (by decide) d_O_log_26 (by first | assumption | omega) (by first | assumption | omega) (fun h26 => ?_) (fun h26 => ?_) | refine pv_icmp_lt 32 (by decide) d_O_log_26 (fun h26 => ?_) (fun h26 => ?_)
      · refine pv_aload_n d_O_log_32 rfl rfl ?_
        refine gN_entries d_O_log_33 ff_O_143 (by first | assumption | omega) ?_
        refine pv_iload_n d_O_log_36 rfl rfl ?_
        refine l_entries d_O_log_37 (by first | assumption | omega) (by first | assumption | omega) ?_
        refine pv_iret d_O_log_38 ?_
        exact k
      · refine pv_bipush d_O_log_29 (-3) (by decide) ?_
        refine pv_iret d_O_log_31 ?_
        omega
  · refine pv_bipush d_O_log_7 (-3) (by decide) ?_
    refine pv_iret d_O_log_9 ?_
    exact absurd h4 (by decide)

set_option maxRecDepth 100000 in
set_option maxHeartbeats 4000000 in
theorem k_O_stamp_out {post : Int32 → List va_E → Prop} {y : Int32} (hb : bX σ) (hy : y < nI 1 ∨ nI (σ 15 0) < y) (k : post (-3) (memX σ ++ ρ)) : pv_M l D ty base b 0 0 0 (fun _ => True) y_O_stamp c_O_stamp 2 (some .int) [.ref (0 + 1), .int y] (memX σ ++ ρ) (pv_QI D ty base b post) := by
  refine pv_enter [some (.ref (0 + 1)), some (.int y)] (by decide) (fun _ => rfl) (fun _ => Nat.le_of_ble_eq_true rfl) ?_
  refine pv_iload_n d_O_stamp_0 rfl rfl ?_
  refine pv_iconst d_O_stamp_1 (nI 1) (by decide) ?_
  first | refine pv_icmpN_lt 16 (by decide) d_O_stamp_2 (by first | assumption | omega) (by first | assumption | omega) (fun h2 => ?_) (fun h2 => ?_) | refine pv_icmp_lt 16 (by decide) d_O_stamp_2 (fun h2 => ?_) (fun h2 => ?_)
  · refine pv_bipush d_O_stamp_16 (-3) (by decide) ?_
    refine pv_iret d_O_stamp_18 ?_
    exact k
  · refine pv_iload_n d_O_stamp_5 rfl rfl ?_
    refine pv_aload_n d_O_stamp_6 rfl rfl ?_
    refine gO_messages d_O_stamp_7 ff_O_28 ?_
    refine gM_taken d_O_stamp_10 ff_O_47 ?_
    first | refine pv_icmpN_le 19 (by decide) d_O_stamp_13 (by first | assumption | omega) (by first | assumption | omega) (fun h13 => ?_) (fun h13 => ?_) | refine pv_icmp_le 19 (by decide) d_O_stamp_13 (fun h13 => ?_) (fun h13 => ?_)
    · exact absurd hy (by intro q; rcases q with q | q
                          · exact h2 q
                          · exact absurd h13 (Int32.not_le.mpr q))
    · refine pv_bipush d_O_stamp_16 (-3) (by decide) ?_
      refine pv_iret d_O_stamp_18 ?_
      exact k

set_option maxRecDepth 100000 in
set_option maxHeartbeats 4000000 in
theorem k_O_stamp {post : Int32 → List va_E → Prop} {j : Nat} (hb : bX σ) (h1 : 1 ≤ j) (h2 : j ≤ σ 15 0) (k : post (nI (σ 62 j)) (memX σ ++ ρ)) : pv_M l D ty base b 0 0 0 (fun _ => True) y_O_stamp c_O_stamp 2 (some .int) [.ref (0 + 1), .int (nI j)] (memX σ ++ ρ) (pv_QI D ty base b post) := by
  refine pv_enter [some (.ref (0 + 1)), some (.int (nI j))] (by decide) (fun _ => rfl) (fun _ => Nat.le_of_ble_eq_true rfl) ?_
  have h15 : σ 15 0 < 49 := hb 15 0
  refine pv_iload_n d_O_stamp_0 rfl rfl ?_
  refine pv_iconst d_O_stamp_1 (nI 1) (by decide) ?_
  first | refine pv_icmpN_lt 16 (by decide) d_O_stamp_2 (by first | assumption | omega) (by first | assumption | omega) (fun h2 => ?_) (fun h2 => ?_) | refine pv_icmp_lt 16 (by decide) d_O_stamp_2 (fun h2 => ?_) (fun h2 => ?_)
  · refine pv_bipush d_O_stamp_16 (-3) (by decide) ?_
    refine pv_iret d_O_stamp_18 ?_
    omega
  · refine pv_iload_n d_O_stamp_5 rfl rfl ?_
    refine pv_aload_n d_O_stamp_6 rfl rfl ?_
    refine gO_messages d_O_stamp_7 ff_O_28 ?_
    refine gM_taken d_O_stamp_10 ff_O_47 ?_
    first | refine pv_icmpN_le 19 (by decide) d_O_stamp_13 (by first | assumption | omega) (by first | assumption | omega) (fun h13 => ?_) (fun h13 => ?_) | refine pv_icmp_le 19 (by decide) d_O_stamp_13 (fun h13 => ?_) (fun h13 => ?_)
    · refine pv_aload_n d_O_stamp_19 rfl rfl ?_
      refine gO_messages d_O_stamp_20 ff_O_28 ?_
      refine gM_stamps d_O_stamp_23 ff_O_147 ?_
      refine pv_iload_n d_O_stamp_26 rfl rfl ?_
      refine l_stamps d_O_stamp_27 (by first | assumption | omega) ?_
      refine pv_iret d_O_stamp_28 ?_
      exact k
    · refine pv_bipush d_O_stamp_16 (-3) (by decide) ?_
      refine pv_iret d_O_stamp_18 ?_
      omega

end PUB
