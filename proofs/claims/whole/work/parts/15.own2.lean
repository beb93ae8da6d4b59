/-! 15.own2: what the rest of the private methods of RotatingTokenGroup do -/
section OWN2
variable {l : Launch} {D : va_G} {ty : Nat → ClassId} {base b : Nat} {σ : Nat → Nat → Nat} {ρ ξ : List va_E}
variable {M : List va_E}
set_option maxRecDepth 100000 in
set_option maxHeartbeats 4000000 in
theorem k_O_deliverTransitional {post : List va_E → Prop} {n r c : Nat} (hn : n < 5) (hr : r < 6) (hc : c < 2 ^ 31) (hb : bX σ) (k : post (memX (x_tr n r c (48 - σ 7 n) (σ 7 n + 1) false σ) ++ ρ)) : pv_M l D ty base b 1 0 0 (fun _ => True) y_O_deliverTransitional c_O_deliverTransitional 7 none [.ref (0 + 1), .ref (pN n + 1), .ref (pR r + 1), .int (nI c)] (memX σ ++ ρ) (pv_QV D ty base b post) := by
  refine pv_enter [some (.ref (0 + 1)), some (.ref (pN n + 1)), some (.ref (pR r + 1)), some (.int (nI c)), none, none, none] (by decide) (fun _ => rfl) (fun _ => Nat.le_of_ble_eq_true rfl) ?_
  have h7 : σ 7 n < 49 := hb 7 n
  have loop : ∀ (j i : Nat) (g : Bool) (s : Nat → Nat → Nat), i + j = 49 → bX s → post (memX (x_tr n r c j i g s) ++ ρ) → pv_V l D ty base b c_O_deliverTransitional 7 y_O_deliverTransitional.cls none y_O_deliverTransitional.name (pv_rm 1 0 0) (fun _ => True) (pv_Qf base 0 0 (pv_QV D ty base b post)) 0 0 11 [some (.ref (0 + 1)), some (.ref (pN n + 1)), some (.ref (pR r + 1)), some (.int (nI (c))), some (.int (nI (b2 g))), some (.int (nI (i))), none] [] (memX s ++ ρ) := by
    intro j
    induction j with
    | zero =>
      intro i g s hi hs k
      refine pv_iload d_O_deliverTransitional_11 rfl ?_
      refine pv_bipush d_O_deliverTransitional_13 (nI 48) (by decide) ?_
      first | refine pv_icmpN_gt 80 (by decide) d_O_deliverTransitional_15 (by first | assumption | omega) (by first | assumption | omega) (fun h15 => ?_) (fun h15 => ?_) | refine pv_icmp_gt 80 (by decide) d_O_deliverTransitional_15 (fun h15 => ?_) (fun h15 => ?_)
      · refine pv_vret d_O_deliverTransitional_80 ?_
        exact k
      · omega
    | succ j ih =>
      intro i g s hi hs k
      unfold x_tr at k
      refine pv_iload d_O_deliverTransitional_11 rfl ?_
      refine pv_bipush d_O_deliverTransitional_13 (nI 48) (by decide) ?_
      first | refine pv_icmpN_gt 80 (by decide) d_O_deliverTransitional_15 (by first | assumption | omega) (by first | assumption | omega) (fun h15 => ?_) (fun h15 => ?_) | refine pv_icmp_gt 80 (by decide) d_O_deliverTransitional_15 (fun h15 => ?_) (fun h15 => ?_)
      · omega
      · refine pv_aload_n d_O_deliverTransitional_18 rfl rfl ?_
        refine pv_iload d_O_deliverTransitional_19 rfl ?_
        refine pv_callV1I d_O_deliverTransitional_21 (k_N_holds hn hs (by omega) ?_) sb_N_holds wm_O_153 (gx_N (by first | assumption | omega)) rfl ⟨wi_N_holds, we_N_holds⟩ (by decide) (by decide) (Nat.le_of_ble_eq_true rfl) (by decide) (by decide)
        have hbb := b2_lt ((s 2 n).testBit i)
        have hbg := b2_lt g
        have hm := msg_lt (q := i) hs hr
        have h60 : s 60 (s (40 + r) i) < 5 := hs 60 _
        first | refine pv_ifN_ne 33 (by decide) d_O_deliverTransitional_24 (by first | assumption | omega) (fun h24 => ?_) (fun h24 => ?_) | refine pv_if_ne 33 (by decide) d_O_deliverTransitional_24 (fun h24 => ?_) (fun h24 => ?_)
        · refine pv_aload_n d_O_deliverTransitional_33 rfl rfl ?_
          refine gR_messageAt d_O_deliverTransitional_34 ff_O_166 (by first | assumption | omega) ?_
          refine pv_iload d_O_deliverTransitional_37 rfl ?_
          refine l_messageAt d_O_deliverTransitional_39 (by first | assumption | omega) (by first | assumption | omega) ?_
          refine pv_ist6 d_O_deliverTransitional_40 rfl (by decide) ?_
          refine pv_iload d_O_deliverTransitional_42 rfl ?_
          first | refine pv_ifN_eq 64 (by decide) d_O_deliverTransitional_44 (by first | assumption | omega) (fun h44 => ?_) (fun h44 => ?_) | refine pv_if_eq 64 (by decide) d_O_deliverTransitional_44 (fun h44 => ?_) (fun h44 => ?_)
          · refine pv_aload_n d_O_deliverTransitional_64 rfl rfl ?_
            refine pv_iconst d_O_deliverTransitional_65 (nI 2) (by decide) ?_
            refine pv_iload d_O_deliverTransitional_66 rfl ?_
            first | refine pv_imulN d_O_deliverTransitional_68 ?_ | refine pv_imul d_O_deliverTransitional_68 ?_
            refine pv_iconst d_O_deliverTransitional_69 (nI 1) (by decide) ?_
            first | refine pv_iaddN d_O_deliverTransitional_70 ?_ | refine pv_iadd d_O_deliverTransitional_70 ?_
            refine pv_callV1V d_O_deliverTransitional_71 (k_N_append hn hs ?_) sb_N_append wm_O_189 (gx_N (by first | assumption | omega)) rfl ⟨wi_N_append, we_N_append⟩ (by decide) (by decide) (Nat.le_of_ble_eq_true rfl) (by decide) (by decide)
            refine pv_inc5 d_O_deliverTransitional_74 rfl (by decide) ?_
            refine pv_goto 11 (by decide) d_O_deliverTransitional_77 ?_
            rw [if_pos (b2_n0.mp h24)] at k
            refine pv_fg6 ?_
            rw [if_pos (Or.inl (b2_0.mp h44))] at k
            exact ih (i + 1) g _ (by omega) (bX_app hs hn (by omega)) k
          · refine pv_iload_n d_O_deliverTransitional_47 rfl rfl ?_
            refine pv_aload_n d_O_deliverTransitional_48 rfl rfl ?_
            refine gO_messages d_O_deliverTransitional_49 ff_O_28 ?_
            refine gM_origins d_O_deliverTransitional_52 ff_O_229 ?_
            refine pv_iload d_O_deliverTransitional_55 rfl ?_
            refine l_origins d_O_deliverTransitional_57 (by first | assumption | omega) ?_
            refine pv_callS2I d_O_deliverTransitional_58 (k_O_isIn (by first | assumption | omega) (by first | assumption | omega) ?_) sb_O_isIn wm_O_212 ws_O_isIn (by decide) (by decide) (Nat.le_of_ble_eq_true rfl) (by decide) (by decide)
            have hbc := b2_lt (c.testBit (s 60 (s (40 + r) i)))
            first | refine pv_ifN_eq 74 (by decide) d_O_deliverTransitional_61 (by first | assumption | omega) (fun h61 => ?_) (fun h61 => ?_) | refine pv_if_eq 74 (by decide) d_O_deliverTransitional_61 (fun h61 => ?_) (fun h61 => ?_)
            · refine pv_inc5 d_O_deliverTransitional_74 rfl (by decide) ?_
              refine pv_goto 11 (by decide) d_O_deliverTransitional_77 ?_
              rw [if_pos (b2_n0.mp h24)] at k
              refine pv_fg6 ?_
              rw [if_neg (by rw [b2_n0.mp h44, b2_0.mp h61]; decide)] at k
              exact ih (i + 1) g _ (by omega) hs k
            · refine pv_aload_n d_O_deliverTransitional_64 rfl rfl ?_
              refine pv_iconst d_O_deliverTransitional_65 (nI 2) (by decide) ?_
              refine pv_iload d_O_deliverTransitional_66 rfl ?_
              first | refine pv_imulN d_O_deliverTransitional_68 ?_ | refine pv_imul d_O_deliverTransitional_68 ?_
              refine pv_iconst d_O_deliverTransitional_69 (nI 1) (by decide) ?_
              first | refine pv_iaddN d_O_deliverTransitional_70 ?_ | refine pv_iadd d_O_deliverTransitional_70 ?_
              refine pv_callV1V d_O_deliverTransitional_71 (k_N_append hn hs ?_) sb_N_append wm_O_189 (gx_N (by first | assumption | omega)) rfl ⟨wi_N_append, we_N_append⟩ (by decide) (by decide) (Nat.le_of_ble_eq_true rfl) (by decide) (by decide)
              refine pv_inc5 d_O_deliverTransitional_74 rfl (by decide) ?_
              refine pv_goto 11 (by decide) d_O_deliverTransitional_77 ?_
              rw [if_pos (b2_n0.mp h24)] at k
              refine pv_fg6 ?_
              rw [if_pos (Or.inr (b2_n0.mp h61))] at k
              exact ih (i + 1) g _ (by omega) (bX_app hs hn (by omega)) k
        · refine pv_iconst d_O_deliverTransitional_27 (nI 1) (by decide) ?_
          refine pv_ist4 d_O_deliverTransitional_28 rfl (by decide) ?_
          refine pv_goto 74 (by decide) d_O_deliverTransitional_30 ?_
          refine pv_inc5 d_O_deliverTransitional_74 rfl (by decide) ?_
          refine pv_goto 11 (by decide) d_O_deliverTransitional_77 ?_
          rw [if_neg (by rw [b2_0.mp h24]; decide)] at k
          exact ih (i + 1) true s (by omega) hs k
  refine pv_iconst d_O_deliverTransitional_0 (nI 0) (by decide) ?_
  refine pv_ist4 d_O_deliverTransitional_1 rfl (by decide) ?_
  refine pv_aload_n d_O_deliverTransitional_3 rfl rfl ?_
  refine gN_place d_O_deliverTransitional_4 ff_O_182 (by first | assumption | omega) ?_
  refine pv_iconst d_O_deliverTransitional_7 (nI 1) (by decide) ?_
  first | refine pv_iaddN d_O_deliverTransitional_8 ?_ | refine pv_iadd d_O_deliverTransitional_8 ?_
  refine pv_ist5 d_O_deliverTransitional_9 rfl (by decide) ?_
  exact loop (48 - σ 7 n) (σ 7 n + 1) false σ (by omega) hb k

set_option maxRecDepth 100000 in
set_option maxHeartbeats 4000000 in
theorem k_O_deliverLeftOver {post : List va_E → Prop} {r c : Nat} (hr : r < 6) (hc : c < 2 ^ 31) (hb : bX σ) (k : post (memX (x_left σ r c) ++ ρ)) : pv_M l D ty base b 3 0 0 (fun _ => True) y_O_deliverLeftOver c_O_deliverLeftOver 7 none [.ref (0 + 1), .ref (pR r + 1), .int (nI c)] (memX σ ++ ρ) (pv_QV D ty base b post) := by
  refine pv_enter [some (.ref (0 + 1)), some (.ref (pR r + 1)), some (.int (nI c)), none, none, none, none] (by decide) (fun _ => rfl) (fun _ => Nat.le_of_ble_eq_true rfl) ?_
  have hh := x_lh_lt (c := c) hb 5
  have hl := x_ll_lt (c := c) hb 5
  have loop2 : ∀ (j i : Nat), i + j = 5 → pv_V l D ty base b c_O_deliverLeftOver 7 y_O_deliverLeftOver.cls none y_O_deliverLeftOver.name (pv_rm 3 0 0) (fun _ => True) (pv_Qf base 0 0 (pv_QV D ty base b post)) 0 0 62 [some (.ref (0 + 1)), some (.ref (pR r + 1)), some (.int (nI (c))), some (.long (lN (x_lh σ c 5))), none, some (.int (nI (x_ll σ c 5))), some (.int (nI (i)))] [] (memX (x_l2 r c (x_lh σ c 5) (x_ll σ c 5) σ i) ++ ρ) := by
    intro j
    induction j with
    | zero =>
      intro i hi
      refine pv_iload d_O_deliverLeftOver_62 rfl ?_
      refine pv_iconst d_O_deliverLeftOver_64 (nI 5) (by decide) ?_
      first | refine pv_icmpN_ge 131 (by decide) d_O_deliverLeftOver_65 (by first | assumption | omega) (by first | assumption | omega) (fun h65 => ?_) (fun h65 => ?_) | refine pv_icmp_ge 131 (by decide) d_O_deliverLeftOver_65 (fun h65 => ?_) (fun h65 => ?_)
      · refine pv_vret d_O_deliverLeftOver_131 ?_
        obtain rfl : i = 5 := by omega
        exact k
      · omega
    | succ j ih =>
      intro i hi
      refine pv_iload d_O_deliverLeftOver_62 rfl ?_
      refine pv_iconst d_O_deliverLeftOver_64 (nI 5) (by decide) ?_
      first | refine pv_icmpN_ge 131 (by decide) d_O_deliverLeftOver_65 (by first | assumption | omega) (by first | assumption | omega) (fun h65 => ?_) (fun h65 => ?_) | refine pv_icmp_ge 131 (by decide) d_O_deliverLeftOver_65 (fun h65 => ?_) (fun h65 => ?_)
      · omega
      · refine pv_iload_n d_O_deliverLeftOver_68 rfl rfl ?_
        refine pv_iload d_O_deliverLeftOver_69 rfl ?_
        refine pv_callS2I d_O_deliverLeftOver_71 (k_O_isIn (by first | assumption | omega) (by first | assumption | omega) ?_) sb_O_isIn wm_O_212 ws_O_isIn (by decide) (by decide) (Nat.le_of_ble_eq_true rfl) (by decide) (by decide)
        have hbb := b2_lt (c.testBit i)
        first | refine pv_ifN_eq 125 (by decide) d_O_deliverLeftOver_74 (by first | assumption | omega) (fun h74 => ?_) (fun h74 => ?_) | refine pv_if_eq 125 (by decide) d_O_deliverLeftOver_74 (fun h74 => ?_) (fun h74 => ?_)
        · refine pv_inc6 d_O_deliverLeftOver_125 rfl (by decide) ?_
          refine pv_goto 62 (by decide) d_O_deliverLeftOver_128 ?_
          have hz := ih (i + 1) (by omega)
          rw [x_l2_s] at hz
          rw [if_neg (by rw [b2_0.mp h74]; decide)] at hz
          exact hz
        · refine pv_aload_n d_O_deliverLeftOver_77 rfl rfl ?_
          refine gO_nodes d_O_deliverLeftOver_78 ff_O_11 ?_
          refine pv_iload d_O_deliverLeftOver_81 rfl ?_
          refine l_nodes d_O_deliverLeftOver_83 (by first | assumption | omega) ?_
          refine pv_lload_n d_O_deliverLeftOver_84 rfl rfl ?_
          refine pN_held d_O_deliverLeftOver_85 ff_O_216 (by first | assumption | omega) ?_
          refine pv_aload_n d_O_deliverLeftOver_88 rfl rfl ?_
          refine gO_nodes d_O_deliverLeftOver_89 ff_O_11 ?_
          refine pv_iload d_O_deliverLeftOver_92 rfl ?_
          refine l_nodes d_O_deliverLeftOver_94 (by first | assumption | omega) ?_
          refine pv_iload d_O_deliverLeftOver_95 rfl ?_
          refine pN_line d_O_deliverLeftOver_97 ff_O_82 (by first | assumption | omega) ?_
          refine pv_aload_n d_O_deliverLeftOver_100 rfl rfl ?_
          refine pv_aload_n d_O_deliverLeftOver_101 rfl rfl ?_
          refine gO_nodes d_O_deliverLeftOver_102 ff_O_11 ?_
          refine pv_iload d_O_deliverLeftOver_105 rfl ?_
          refine l_nodes d_O_deliverLeftOver_107 (by first | assumption | omega) ?_
          refine pv_aload_n d_O_deliverLeftOver_108 rfl rfl ?_
          refine pv_callV2V d_O_deliverLeftOver_109 (k_O_deliverRegular (by first | assumption | omega) hr (bX_sU (bX_sU (bX_l2 hb hr hh hl i (by omega)) hh) hl) ?_) sb_O_deliverRegular wm_O_179 gx_O rfl ⟨wi_O_deliverRegular, we_O_deliverRegular⟩ (by decide) (by decide) (Nat.le_of_ble_eq_true rfl) (by decide) (by decide)
          refine pv_aload_n d_O_deliverLeftOver_112 rfl rfl ?_
          refine pv_aload_n d_O_deliverLeftOver_113 rfl rfl ?_
          refine gO_nodes d_O_deliverLeftOver_114 ff_O_11 ?_
          refine pv_iload d_O_deliverLeftOver_117 rfl ?_
          refine l_nodes d_O_deliverLeftOver_119 (by first | assumption | omega) ?_
          refine pv_aload_n d_O_deliverLeftOver_120 rfl rfl ?_
          refine pv_iload_n d_O_deliverLeftOver_121 rfl rfl ?_
          refine pv_callV3V d_O_deliverLeftOver_122 (k_O_deliverTransitional (by first | assumption | omega) hr hc (bX_l1 (c := c) (bX_l2 hb hr hh hl i (by omega)) (by omega) hr hh hl) ?_) sb_O_deliverTransitional wm_O_225 gx_O rfl ⟨wi_O_deliverTransitional, we_O_deliverTransitional⟩ (by decide) (by decide) (Nat.le_of_ble_eq_true rfl) (by decide) (by decide)
          refine pv_inc6 d_O_deliverLeftOver_125 rfl (by decide) ?_
          refine pv_goto 62 (by decide) d_O_deliverLeftOver_128 ?_
          have hz := ih (i + 1) (by omega)
          rw [x_l2_s] at hz
          rw [if_pos (b2_n0.mp h74)] at hz
          exact hz
  have loop1 : ∀ (j i : Nat), i + j = 5 → pv_V l D ty base b c_O_deliverLeftOver 7 y_O_deliverLeftOver.cls none y_O_deliverLeftOver.name (pv_rm 3 0 0) (fun _ => True) (pv_Qf base 0 0 (pv_QV D ty base b post)) 0 0 8 [some (.ref (0 + 1)), some (.ref (pR r + 1)), some (.int (nI (c))), some (.long (lN (x_lh σ c i))), none, some (.int (nI (x_ll σ c i))), some (.int (nI (i)))] [] (memX σ ++ ρ) := by
    intro j
    induction j with
    | zero =>
      intro i hi
      refine pv_iload d_O_deliverLeftOver_8 rfl ?_
      refine pv_iconst d_O_deliverLeftOver_10 (nI 5) (by decide) ?_
      first | refine pv_icmpN_ge 59 (by decide) d_O_deliverLeftOver_11 (by first | assumption | omega) (by first | assumption | omega) (fun h11 => ?_) (fun h11 => ?_) | refine pv_icmp_ge 59 (by decide) d_O_deliverLeftOver_11 (fun h11 => ?_) (fun h11 => ?_)
      · refine pv_iconst d_O_deliverLeftOver_59 (nI 0) (by decide) ?_
        refine pv_ist6 d_O_deliverLeftOver_60 rfl (by decide) ?_
        obtain rfl : i = 5 := by omega
        exact loop2 5 0 rfl
      · omega
    | succ j ih =>
      intro i hi
      refine pv_iload d_O_deliverLeftOver_8 rfl ?_
      refine pv_iconst d_O_deliverLeftOver_10 (nI 5) (by decide) ?_
      first | refine pv_icmpN_ge 59 (by decide) d_O_deliverLeftOver_11 (by first | assumption | omega) (by first | assumption | omega) (fun h11 => ?_) (fun h11 => ?_) | refine pv_icmp_ge 59 (by decide) d_O_deliverLeftOver_11 (fun h11 => ?_) (fun h11 => ?_)
      · omega
      · refine pv_iload_n d_O_deliverLeftOver_14 rfl rfl ?_
        refine pv_iload d_O_deliverLeftOver_15 rfl ?_
        refine pv_callS2I d_O_deliverLeftOver_17 (k_O_isIn (by first | assumption | omega) (by first | assumption | omega) ?_) sb_O_isIn wm_O_212 ws_O_isIn (by decide) (by decide) (Nat.le_of_ble_eq_true rfl) (by decide) (by decide)
        have hbb := b2_lt (c.testBit i)
        have hli := x_ll_lt (c := c) hb i
        have hl6 : σ 6 i < 49 := hb 6 i
        first | refine pv_ifN_eq 53 (by decide) d_O_deliverLeftOver_20 (by first | assumption | omega) (fun h20 => ?_) (fun h20 => ?_) | refine pv_if_eq 53 (by decide) d_O_deliverLeftOver_20 (fun h20 => ?_) (fun h20 => ?_)
        · refine pv_inc6 d_O_deliverLeftOver_53 rfl (by decide) ?_
          refine pv_goto 8 (by decide) d_O_deliverLeftOver_56 ?_
          have hz := ih (i + 1) (by omega)
          rw [x_lh_s, x_ll_s] at hz
          rw [if_neg (by rw [b2_0.mp h20]; decide), if_neg (by rw [b2_0.mp h20]; decide)] at hz
          exact hz
        · refine pv_lload_n d_O_deliverLeftOver_23 rfl rfl ?_
          refine pv_aload_n d_O_deliverLeftOver_24 rfl rfl ?_
          refine gO_nodes d_O_deliverLeftOver_25 ff_O_11 ?_
          refine pv_iload d_O_deliverLeftOver_28 rfl ?_
          refine l_nodes d_O_deliverLeftOver_30 (by first | assumption | omega) ?_
          refine gN_held d_O_deliverLeftOver_31 ff_O_216 (by first | assumption | omega) ?_
          refine pv_lorN d_O_deliverLeftOver_34 ?_
          refine pv_lst3 d_O_deliverLeftOver_35 rfl (by decide) ?_
          refine pv_iload d_O_deliverLeftOver_36 rfl ?_
          refine pv_aload_n d_O_deliverLeftOver_38 rfl rfl ?_
          refine gO_nodes d_O_deliverLeftOver_39 ff_O_11 ?_
          refine pv_iload d_O_deliverLeftOver_42 rfl ?_
          refine l_nodes d_O_deliverLeftOver_44 (by first | assumption | omega) ?_
          refine gN_line d_O_deliverLeftOver_45 ff_O_82 (by first | assumption | omega) ?_
          refine pv_mmaxN d_O_deliverLeftOver_48 wm_O_219 ws_max wn_Math wc_max (by decide) (by decide) (Nat.le_of_ble_eq_true rfl) (by decide) (by decide) (by first | assumption | omega) (by first | assumption | omega) ?_
          refine pv_ist5 d_O_deliverLeftOver_51 rfl (by decide) ?_
          refine pv_inc6 d_O_deliverLeftOver_53 rfl (by decide) ?_
          refine pv_goto 8 (by decide) d_O_deliverLeftOver_56 ?_
          have hz := ih (i + 1) (by omega)
          rw [x_lh_s, x_ll_s] at hz
          rw [if_pos (b2_n0.mp h20), if_pos (b2_n0.mp h20)] at hz
          exact hz
  refine pv_lconst d_O_deliverLeftOver_0 (lN 0) (by decide) ?_
  refine pv_lst3 d_O_deliverLeftOver_1 rfl (by decide) ?_
  refine pv_iconst d_O_deliverLeftOver_2 (nI 0) (by decide) ?_
  refine pv_ist5 d_O_deliverLeftOver_3 rfl (by decide) ?_
  refine pv_iconst d_O_deliverLeftOver_5 (nI 0) (by decide) ?_
  refine pv_ist6 d_O_deliverLeftOver_6 rfl (by decide) ?_
  exact loop1 5 0 rfl

theorem x_del_ne {n r f j : Nat} (h1 : f ≠ 4) (h2 : f ≠ 30 + n) (h3 : f ≠ 7) : ∀ k (σ : Nat → Nat → Nat), x_del n r k σ f j = σ f j
  | 0, _ => rfl
  | k + 1, σ => by
    unfold x_del
    split
    · rw [x_del_ne h1 h2 h3 k, sU_nef h3, x_app_ne h1 h2]
    · rfl
theorem x_tr_ne {n r c f j : Nat} (h1 : f ≠ 4) (h2 : f ≠ 30 + n) : ∀ k i g (σ : Nat → Nat → Nat), x_tr n r c k i g σ f j = σ f j
  | 0, _, _, _ => rfl
  | k + 1, i, g, σ => by
    unfold x_tr
    split
    · rw [x_tr_ne h1 h2 k]
      split
      · rw [x_app_ne h1 h2]
      · rfl
    · rw [x_tr_ne h1 h2 k]
theorem x_l1_ne {r c h l n f j : Nat} {σ : Nat → Nat → Nat} (h2 : f ≠ 2) (h4 : f ≠ 4) (h6 : f ≠ 6) (h7 : f ≠ 7) (h30 : f ≠ 30 + n) : x_l1 r c h l n σ f j = σ f j := by
  unfold x_l1
  rw [x_del_ne h4 h30 h7, sU_nef h6, sU_nef h2]
theorem x_l2_ne {r c h l f j : Nat} {σ : Nat → Nat → Nat} (h2 : f ≠ 2) (h4 : f ≠ 4) (h6 : f ≠ 6) (h7 : f ≠ 7) (h30 : f < 30 ∨ 35 ≤ f) : ∀ k, k ≤ 5 → x_l2 r c h l σ k f j = σ f j
  | 0, _ => rfl
  | k + 1, hk => by
    rw [x_l2_s]
    split
    · rw [x_tr_ne h4 (by omega), x_l1_ne h2 h4 h6 h7 (by omega), x_l2_ne h2 h4 h6 h7 h30 k (by omega)]
    · exact x_l2_ne h2 h4 h6 h7 h30 k (by omega)
theorem x_f6_ne {mem f j : Nat} {σ : Nat → Nat → Nat} (h2 : f ≠ 2) (h4 : f ≠ 4) (h6 : f ≠ 6) (h7 : f ≠ 7) (h30 : f < 30 ∨ 35 ≤ f) : ∀ k, x_f6 mem σ k f j = σ f j
  | 0 => rfl
  | k + 1 => by
    rw [x_f6_s]
    split
    · unfold x_left
      rw [x_l2_ne h2 h4 h6 h7 h30 5 (by decide), x_f6_ne h2 h4 h6 h7 h30 k]
    · exact x_f6_ne h2 h4 h6 h7 h30 k
set_option maxRecDepth 100000 in
set_option maxHeartbeats 4000000 in
theorem k_O_formAnew {post : List va_E → Prop} {a : Nat} (ha : a < 2 ^ 31) (hb : bX σ) (h0 : σ 0 0 + 1 < 600) (k : post (memX (x_form σ a) ++ ρ)) : pv_M l D ty base b 4 0 0 (fun _ => True) y_O_formAnew c_O_formAnew 8 none [.ref (0 + 1), .int (nI a)] (memX σ ++ ρ) (pv_QV D ty base b post) := by
  refine pv_enter [some (.ref (0 + 1)), some (.int (nI a)), none, none, none, none, none, none] (by decide) (fun _ => rfl) (fun _ => Nat.le_of_ble_eq_true rfl) ?_
  have hm := x_upin_lt (σ := σ) (a := a) 5
  have x00 : x_f6 (x_upin σ a 5) σ 6 0 0 = σ 0 0 := x_f6_ne (by decide) (by decide) (by decide) (by decide) (Or.inl (by decide)) 6
  have loop : ∀ (j i : Nat), i + j = 6 → pv_V l D ty base b c_O_formAnew 8 y_O_formAnew.cls none y_O_formAnew.name (pv_rm 4 0 0) (fun _ => True) (pv_Qf base 0 0 (pv_QV D ty base b post)) 0 0 18 [some (.ref (0 + 1)), some (.int (nI (a))), some (.int (nI (x_upin σ a 5))), some (.ref (17 + 1)), some (.int (nI (6))), some (.int (nI (i))), none, none] [] (memX (x_f6 (x_upin σ a 5) σ i) ++ ρ) := by
    intro j
    induction j with
    | zero =>
      intro i hi
      refine pv_iload d_O_formAnew_18 rfl ?_
      refine pv_iload d_O_formAnew_20 rfl ?_
      first | refine pv_icmpN_ge 60 (by decide) d_O_formAnew_22 (by first | assumption | omega) (by first | assumption | omega) (fun h22 => ?_) (fun h22 => ?_) | refine pv_icmp_ge 60 (by decide) d_O_formAnew_22 (fun h22 => ?_) (fun h22 => ?_)
      · obtain rfl : i = 6 := by omega
        refine pv_aload_n d_O_formAnew_60 rfl rfl ?_
        refine pv_iload_n d_O_formAnew_61 rfl rfl ?_
        refine pv_callV1V d_O_formAnew_62 (k_O_enterNewRing (bX_f6 hb 6 (by decide)) (by rw [x00]; exact h0) (by omega) ?_) sb_O_enterNewRing wm_O_36 gx_O rfl ⟨wi_O_enterNewRing, we_O_enterNewRing⟩ (by decide) (by decide) (Nat.le_of_ble_eq_true rfl) (by decide) (by decide)
        refine pv_vret d_O_formAnew_65 ?_
        exact k
      · omega
    | succ j ih =>
      intro i hi
      refine pv_iload d_O_formAnew_18 rfl ?_
      refine pv_iload d_O_formAnew_20 rfl ?_
      first | refine pv_icmpN_ge 60 (by decide) d_O_formAnew_22 (by first | assumption | omega) (by first | assumption | omega) (fun h22 => ?_) (fun h22 => ?_) | refine pv_icmp_ge 60 (by decide) d_O_formAnew_22 (fun h22 => ?_) (fun h22 => ?_)
      · omega
      · refine pv_aload_n d_O_formAnew_25 rfl rfl ?_
        refine pv_iload d_O_formAnew_26 rfl ?_
        refine l_rings d_O_formAnew_28 (by first | assumption | omega) ?_
        refine pv_ast6 d_O_formAnew_29 rfl (by decide) ?_
        refine pv_aload_n d_O_formAnew_31 rfl rfl ?_
        refine pv_aload d_O_formAnew_32 rfl ?_
        refine pv_callV1I d_O_formAnew_34 (k_O_nodesOf ?_) sb_O_nodesOf wm_O_204 gx_O rfl ⟨wi_O_nodesOf, we_O_nodesOf⟩ (by decide) (by decide) (Nat.le_of_ble_eq_true rfl) (by decide) (by decide)
        refine pv_iload_n d_O_formAnew_37 rfl rfl ?_
        first | refine pv_iandN d_O_formAnew_38 ?_ | refine pv_iand d_O_formAnew_38 ?_
        refine pv_ist7 d_O_formAnew_39 rfl (by decide) ?_
        refine pv_iload d_O_formAnew_41 rfl ?_
        have hbb : x_nodes (x_f6 (x_upin σ a 5) σ i) i 5 &&& x_upin σ a 5 < 2 ^ 31 := Nat.lt_of_le_of_lt Nat.and_le_right (by omega)
        first | refine pv_ifN_eq 54 (by decide) d_O_formAnew_43 (by first | assumption | omega) (fun h43 => ?_) (fun h43 => ?_) | refine pv_if_eq 54 (by decide) d_O_formAnew_43 (fun h43 => ?_) (fun h43 => ?_)
        · refine pv_inc5 d_O_formAnew_54 rfl (by decide) ?_
          refine pv_goto 18 (by decide) d_O_formAnew_57 ?_
          have hz := ih (i + 1) (by omega)
          rw [x_f6_s] at hz
          refine pv_fg6 (pv_fg7 ?_)
          rw [if_neg (fun z => z h43)] at hz
          exact hz
        · refine pv_aload_n d_O_formAnew_46 rfl rfl ?_
          refine pv_aload d_O_formAnew_47 rfl ?_
          refine pv_iload d_O_formAnew_49 rfl ?_
          refine pv_callV2V d_O_formAnew_51 (k_O_deliverLeftOver (by first | assumption | omega) (Nat.lt_of_le_of_lt Nat.and_le_right (by omega)) (bX_f6 hb i (by omega)) ?_) sb_O_deliverLeftOver wm_O_208 gx_O rfl ⟨wi_O_deliverLeftOver, we_O_deliverLeftOver⟩ (by decide) (by decide) (Nat.le_of_ble_eq_true rfl) (by decide) (by decide)
          refine pv_inc5 d_O_formAnew_54 rfl (by decide) ?_
          refine pv_goto 18 (by decide) d_O_formAnew_57 ?_
          have hz := ih (i + 1) (by omega)
          rw [x_f6_s] at hz
          refine pv_fg6 (pv_fg7 ?_)
          rw [if_pos h43] at hz
          exact hz
  refine pv_aload_n d_O_formAnew_0 rfl rfl ?_
  refine pv_iload_n d_O_formAnew_1 rfl rfl ?_
  refine pv_callV1I d_O_formAnew_2 (k_O_upNodesIn ha hb ?_) sb_O_upNodesIn wm_O_201 gx_O rfl ⟨wi_O_upNodesIn, we_O_upNodesIn⟩ (by decide) (by decide) (Nat.le_of_ble_eq_true rfl) (by decide) (by decide)
  refine pv_ist2 d_O_formAnew_5 rfl (by decide) ?_
  refine pv_aload_n d_O_formAnew_6 rfl rfl ?_
  refine gO_rings d_O_formAnew_7 ff_O_20 ?_
  refine pv_ast3 d_O_formAnew_10 rfl (by decide) ?_
  refine pv_aload_n d_O_formAnew_11 rfl rfl ?_
  refine n_rings d_O_formAnew_12 ?_
  refine pv_ist4 d_O_formAnew_13 rfl (by decide) ?_
  refine pv_iconst d_O_formAnew_15 (nI 0) (by decide) ?_
  refine pv_ist5 d_O_formAnew_16 rfl (by decide) ?_
  exact loop 6 0 rfl

set_option maxRecDepth 100000 in
set_option maxHeartbeats 4000000 in
theorem k_O_broadcastRequests {post : Int32 → List va_E → Prop} {n r : Nat} (hn : n < 5) (hr : r < 6) (hb : bX σ) (k : post (nI (x_rq n r σ 48).2) (memX (x_rq n r σ 48).1 ++ ρ)) : pv_M l D ty base b 3 0 0 (fun _ => True) y_O_broadcastRequests c_O_broadcastRequests 5 (some .int) [.ref (0 + 1), .ref (pN n + 1), .ref (pR r + 1)] (memX σ ++ ρ) (pv_QI D ty base b post) := by
  refine pv_enter [some (.ref (0 + 1)), some (.ref (pN n + 1)), some (.ref (pR r + 1)), none, none] (by decide) (fun _ => rfl) (fun _ => Nat.le_of_ble_eq_true rfl) ?_
  have loop : ∀ (j i : Nat), i + j = 48 → pv_V l D ty base b c_O_broadcastRequests 5 y_O_broadcastRequests.cls (some .int) y_O_broadcastRequests.name (pv_rm 3 0 0) (fun _ => True) (pv_Qf base 0 0 (pv_QI D ty base b post)) 0 0 5 [some (.ref (0 + 1)), some (.ref (pN n + 1)), some (.ref (pR r + 1)), some (.int (nI ((x_rq n r σ i).2))), some (.int (nI (i + 1)))] [] (memX (x_rq n r σ i).1 ++ ρ) := by
    intro j
    induction j with
    | zero =>
      intro i hi
      refine pv_iload d_O_broadcastRequests_5 rfl ?_
      refine pv_bipush d_O_broadcastRequests_7 (nI 48) (by decide) ?_
      first | refine pv_icmpN_gt 52 (by decide) d_O_broadcastRequests_9 (by first | assumption | omega) (by first | assumption | omega) (fun h9 => ?_) (fun h9 => ?_) | refine pv_icmp_gt 52 (by decide) d_O_broadcastRequests_9 (fun h9 => ?_) (fun h9 => ?_)
      · refine pv_iload_n d_O_broadcastRequests_52 rfl rfl ?_
        refine pv_iret d_O_broadcastRequests_53 ?_
        obtain rfl : i = 48 := by omega
        exact k
      · omega
    | succ j ih =>
      intro i hi
      refine pv_iload d_O_broadcastRequests_5 rfl ?_
      refine pv_bipush d_O_broadcastRequests_7 (nI 48) (by decide) ?_
      first | refine pv_icmpN_gt 52 (by decide) d_O_broadcastRequests_9 (by first | assumption | omega) (by first | assumption | omega) (fun h9 => ?_) (fun h9 => ?_) | refine pv_icmp_gt 52 (by decide) d_O_broadcastRequests_9 (fun h9 => ?_) (fun h9 => ?_)
      · omega
      · refine pv_aload_n d_O_broadcastRequests_12 rfl rfl ?_
        refine pv_iload d_O_broadcastRequests_13 rfl ?_
        refine pv_callV1I d_O_broadcastRequests_15 (k_R_isRequested hr (bX_rq hb i (by omega)) (by omega) ?_) sb_R_isRequested wm_O_150 (gx_R (by first | assumption | omega)) rfl ⟨wi_R_isRequested, we_R_isRequested⟩ (by decide) (by decide) (Nat.le_of_ble_eq_true rfl) (by decide) (by decide)
        have hb1 := b2_lt (((x_rq n r σ i).1 14 r).testBit (i + 1))
        have hb2 := b2_lt (((x_rq n r σ i).1 2 n).testBit (i + 1))
        first | refine pv_ifN_eq 46 (by decide) d_O_broadcastRequests_18 (by first | assumption | omega) (fun h18 => ?_) (fun h18 => ?_) | refine pv_if_eq 46 (by decide) d_O_broadcastRequests_18 (fun h18 => ?_) (fun h18 => ?_)
        · refine pv_inc4 d_O_broadcastRequests_46 rfl (by decide) ?_
          refine pv_goto 5 (by decide) d_O_broadcastRequests_49 ?_
          have hz := ih (i + 1) (by omega)
          rw [x_rq_s] at hz
          rw [if_neg (fun z => absurd z.1 (by rw [b2_0.mp h18]; decide))] at hz
          exact hz
        · refine pv_aload_n d_O_broadcastRequests_21 rfl rfl ?_
          refine pv_iload d_O_broadcastRequests_22 rfl ?_
          refine pv_callV1I d_O_broadcastRequests_24 (k_N_holds hn (bX_rq hb i (by omega)) (by omega) ?_) sb_N_holds wm_O_153 (gx_N (by first | assumption | omega)) rfl ⟨wi_N_holds, we_N_holds⟩ (by decide) (by decide) (Nat.le_of_ble_eq_true rfl) (by decide) (by decide)
          first | refine pv_ifN_eq 46 (by decide) d_O_broadcastRequests_27 (by first | assumption | omega) (fun h27 => ?_) (fun h27 => ?_) | refine pv_if_eq 46 (by decide) d_O_broadcastRequests_27 (fun h27 => ?_) (fun h27 => ?_)
          · refine pv_inc4 d_O_broadcastRequests_46 rfl (by decide) ?_
            refine pv_goto 5 (by decide) d_O_broadcastRequests_49 ?_
            have hz := ih (i + 1) (by omega)
            rw [x_rq_s] at hz
            rw [if_neg (fun z => absurd z.2 (by rw [b2_0.mp h27]; decide))] at hz
            exact hz
          · refine pv_aload_n d_O_broadcastRequests_30 rfl rfl ?_
            refine pv_iload d_O_broadcastRequests_31 rfl ?_
            refine pv_callV1V d_O_broadcastRequests_33 (k_R_takeOffRequest hr (by omega) ?_) sb_R_takeOffRequest wm_O_156 (gx_R (by first | assumption | omega)) rfl ⟨wi_R_takeOffRequest, we_R_takeOffRequest⟩ (by decide) (by decide) (Nat.le_of_ble_eq_true rfl) (by decide) (by decide)
            refine pv_aload_n d_O_broadcastRequests_36 rfl rfl ?_
            refine pv_aload_n d_O_broadcastRequests_37 rfl rfl ?_
            refine pv_iload d_O_broadcastRequests_38 rfl ?_
            refine pv_callV2V d_O_broadcastRequests_40 (k_O_broadcast hn (bX_offreq (bX_rq hb i (by omega))) (by omega) ?_) sb_O_broadcast wm_O_159 gx_O rfl ⟨wi_O_broadcast, we_O_broadcast⟩ (by decide) (by decide) (Nat.le_of_ble_eq_true rfl) (by decide) (by decide)
            refine pv_inc3 d_O_broadcastRequests_43 rfl (by decide) ?_
            refine pv_inc4 d_O_broadcastRequests_46 rfl (by decide) ?_
            refine pv_goto 5 (by decide) d_O_broadcastRequests_49 ?_
            have hz := ih (i + 1) (by omega)
            rw [x_rq_s] at hz
            rw [if_pos ⟨b2_n0.mp h18, b2_n0.mp h27⟩] at hz
            exact hz
  refine pv_iconst d_O_broadcastRequests_0 (nI 0) (by decide) ?_
  refine pv_ist3 d_O_broadcastRequests_1 rfl (by decide) ?_
  refine pv_iconst d_O_broadcastRequests_2 (nI 1) (by decide) ?_
  refine pv_ist4 d_O_broadcastRequests_3 rfl (by decide) ?_
  exact loop 48 0 rfl

set_option maxRecDepth 100000 in
set_option maxHeartbeats 4000000 in
theorem k_O_broadcastNew {post : Int32 → List va_E → Prop} {n r : Nat} (hn : n < 5) (hr : r < 6) (hb : bX σ) (k : post (nI (x_nw n r 2 σ 0).2) (memX (x_nw n r 2 σ 0).1 ++ ρ)) : pv_M l D ty base b 3 0 0 (fun _ => True) y_O_broadcastNew c_O_broadcastNew 5 (some .int) [.ref (0 + 1), .ref (pN n + 1), .ref (pR r + 1)] (memX σ ++ ρ) (pv_QI D ty base b post) := by
  refine pv_enter [some (.ref (0 + 1)), some (.ref (pN n + 1)), some (.ref (pR r + 1)), none, none] (by decide) (fun _ => rfl) (fun _ => Nat.le_of_ble_eq_true rfl) ?_
  have loop : ∀ (j : Nat) (s : Nat → Nat → Nat) (c : Nat), c + j = 2 → bX s → post (nI (x_nw n r j s c).2) (memX (x_nw n r j s c).1 ++ ρ) → pv_V l D ty base b c_O_broadcastNew 5 y_O_broadcastNew.cls (some .int) y_O_broadcastNew.name (pv_rm 3 0 0) (fun _ => True) (pv_Qf base 0 0 (pv_QI D ty base b post)) 0 0 2 [some (.ref (0 + 1)), some (.ref (pN n + 1)), some (.ref (pR r + 1)), some (.int (nI (c))), none] [] (memX s ++ ρ) := by
    intro j
    induction j with
    | zero =>
      intro s c hi hs k
      refine pv_iload_n d_O_broadcastNew_2 rfl rfl ?_
      refine pv_iconst d_O_broadcastNew_3 (nI 2) (by decide) ?_
      first | refine pv_icmpN_ge 87 (by decide) d_O_broadcastNew_4 (by first | assumption | omega) (by first | assumption | omega) (fun h4 => ?_) (fun h4 => ?_) | refine pv_icmp_ge 87 (by decide) d_O_broadcastNew_4 (fun h4 => ?_) (fun h4 => ?_)
      · refine pv_iload_n d_O_broadcastNew_87 rfl rfl ?_
        refine pv_iret d_O_broadcastNew_88 ?_
        exact k
      · omega
    | succ j ih =>
      intro s c hi hs k
      unfold x_nw at k
      refine pv_iload_n d_O_broadcastNew_2 rfl rfl ?_
      refine pv_iconst d_O_broadcastNew_3 (nI 2) (by decide) ?_
      first | refine pv_icmpN_ge 87 (by decide) d_O_broadcastNew_4 (by first | assumption | omega) (by first | assumption | omega) (fun h4 => ?_) (fun h4 => ?_) | refine pv_icmp_ge 87 (by decide) d_O_broadcastNew_4 (fun h4 => ?_) (fun h4 => ?_)
      · refine pv_iload_n d_O_broadcastNew_87 rfl rfl ?_
        refine pv_iret d_O_broadcastNew_88 ?_
        omega
      · have h3 : s 3 n < 9 := hs 3 n
        have h13 : s 13 r < 49 := hs 13 r
        have hq := q_lt (k := 0) hs hn
        refine pv_aload_n d_O_broadcastNew_7 rfl rfl ?_
        refine gN_queued d_O_broadcastNew_8 ff_O_50 (by first | assumption | omega) ?_
        first | refine pv_ifN_le 87 (by decide) d_O_broadcastNew_11 (by first | assumption | omega) (fun h11 => ?_) (fun h11 => ?_) | refine pv_if_le 87 (by decide) d_O_broadcastNew_11 (fun h11 => ?_) (fun h11 => ?_)
        · refine pv_iload_n d_O_broadcastNew_87 rfl rfl ?_
          refine pv_iret d_O_broadcastNew_88 ?_
          rw [if_neg (fun z => by omega)] at k
          exact k
        · refine pv_aload_n d_O_broadcastNew_14 rfl rfl ?_
          refine gR_last d_O_broadcastNew_15 ff_O_124 (by first | assumption | omega) ?_
          refine pv_bipush d_O_broadcastNew_18 (nI 48) (by decide) ?_
          first | refine pv_icmpN_ge 87 (by decide) d_O_broadcastNew_20 (by first | assumption | omega) (by first | assumption | omega) (fun h20 => ?_) (fun h20 => ?_) | refine pv_icmp_ge 87 (by decide) d_O_broadcastNew_20 (fun h20 => ?_) (fun h20 => ?_)
          · refine pv_iload_n d_O_broadcastNew_87 rfl rfl ?_
            refine pv_iret d_O_broadcastNew_88 ?_
            rw [if_neg (fun z => by omega)] at k
            exact k
          · refine pv_aload_n d_O_broadcastNew_23 rfl rfl ?_
            refine pv_callV0I d_O_broadcastNew_24 (k_N_dequeue hn hs h11 ?_) sb_N_dequeue wm_O_163 (gx_N (by first | assumption | omega)) rfl ⟨wi_N_dequeue, we_N_dequeue⟩ (by decide) (by decide) (Nat.le_of_ble_eq_true rfl) (by decide) (by decide)
            refine pv_ist4 d_O_broadcastNew_27 rfl (by decide) ?_
            refine pv_aload_n d_O_broadcastNew_29 rfl rfl ?_
            refine pv_dup d_O_broadcastNew_30 rfl ?_
            refine gR_last d_O_broadcastNew_31 ff_O_124 (by first | assumption | omega) ?_
            rw [x_deq_ne (by decide) (by omega)]
            refine pv_iconst d_O_broadcastNew_34 (nI 1) (by decide) ?_
            first | refine pv_iaddN d_O_broadcastNew_35 ?_ | refine pv_iadd d_O_broadcastNew_35 ?_
            refine pR_last d_O_broadcastNew_36 ff_O_124 (by first | assumption | omega) ?_
            refine pv_aload_n d_O_broadcastNew_39 rfl rfl ?_
            refine gR_messageAt d_O_broadcastNew_40 ff_O_166 (by first | assumption | omega) ?_
            refine pv_aload_n d_O_broadcastNew_43 rfl rfl ?_
            refine gR_last d_O_broadcastNew_44 ff_O_124 (by first | assumption | omega) ?_
            rw [sU_same]
            refine pv_iload d_O_broadcastNew_47 rfl ?_
            refine s_messageAt d_O_broadcastNew_49 (by first | assumption | omega) (by first | assumption | omega) ?_
            refine pv_aload_n d_O_broadcastNew_50 rfl rfl ?_
            refine gO_messages d_O_broadcastNew_51 ff_O_28 ?_
            refine gM_stamps d_O_broadcastNew_54 ff_O_147 ?_
            refine pv_iload d_O_broadcastNew_57 rfl ?_
            refine pv_bipush d_O_broadcastNew_59 (nI 64) (by decide) ?_
            refine pv_aload_n d_O_broadcastNew_61 rfl rfl ?_
            refine gR_number d_O_broadcastNew_62 ff_O_118 (by first | assumption | omega) ?_
            rw [sU_nef (show (10 : Nat) ≠ 40 + r by omega), sU_nef (show (10 : Nat) ≠ 13 by decide), x_deq_ne (show (10 : Nat) ≠ 3 by decide) (by omega)]
            first | refine pv_imulN d_O_broadcastNew_65 ?_ | refine pv_imul d_O_broadcastNew_65 ?_
            refine pv_aload_n d_O_broadcastNew_66 rfl rfl ?_
            refine gR_last d_O_broadcastNew_67 ff_O_124 (by first | assumption | omega) ?_
            rw [sU_nef (show (13 : Nat) ≠ 40 + r by omega), sU_same]
            first | refine pv_iaddN d_O_broadcastNew_70 ?_ | refine pv_iadd d_O_broadcastNew_70 ?_
            refine s_stamps d_O_broadcastNew_71 (by first | assumption | omega) ?_
            refine pv_aload_n d_O_broadcastNew_72 rfl rfl ?_
            refine pv_aload_n d_O_broadcastNew_73 rfl rfl ?_
            refine pv_aload_n d_O_broadcastNew_74 rfl rfl ?_
            refine gR_last d_O_broadcastNew_75 ff_O_124 (by first | assumption | omega) ?_
            rw [sU_nef (show (13 : Nat) ≠ 62 by decide), sU_nef (show (13 : Nat) ≠ 40 + r by omega), sU_same]
            refine pv_callV2V d_O_broadcastNew_78 (k_O_broadcast hn (bX_nw0 hs hn hr h20) (by omega) ?_) sb_O_broadcast wm_O_159 gx_O rfl ⟨wi_O_broadcast, we_O_broadcast⟩ (by decide) (by decide) (Nat.le_of_ble_eq_true rfl) (by decide) (by decide)
            refine pv_inc3 d_O_broadcastNew_81 rfl (by decide) ?_
            refine pv_goto 2 (by decide) d_O_broadcastNew_84 ?_
            rw [if_pos ⟨h11, h20⟩] at k
            refine pv_fg4 ?_
            exact ih _ (c + 1) (by omega) (bX_nw1 hs hn hr h20) k
  refine pv_iconst d_O_broadcastNew_0 (nI 0) (by decide) ?_
  refine pv_ist3 d_O_broadcastNew_1 rfl (by decide) ?_
  exact loop 2 σ 0 rfl hb k

set_option maxRecDepth 100000 in
set_option maxHeartbeats 4000000 in
theorem k_O_isUpNode_no {post : Int32 → List va_E → Prop} {x : Int32} (h : x < 0 ∨ nI 5 ≤ x) (k : post (nI 0) (memX σ ++ ρ)) : pv_M l D ty base b 1 0 0 (fun _ => True) y_O_isUpNode c_O_isUpNode 2 (some .boolean) [.ref (0 + 1), .int x] (memX σ ++ ρ) (pv_QI D ty base b post) := by
  refine pv_enter [some (.ref (0 + 1)), some (.int x)] (by decide) (fun _ => rfl) (fun _ => Nat.le_of_ble_eq_true rfl) ?_
  refine pv_iload_n d_O_isUpNode_0 rfl rfl ?_
  refine pv_callS1I d_O_isUpNode_1 (k_O_isNode_no h ?_) sb_O_isNode wm_O_39 ws_O_isNode (by decide) (by decide) (Nat.le_of_ble_eq_true rfl) (by decide) (by decide)
  first | refine pv_ifN_eq 23 (by decide) d_O_isUpNode_4 (by first | assumption | omega) (fun h4 => ?_) (fun h4 => ?_) | refine pv_if_eq 23 (by decide) d_O_isUpNode_4 (fun h4 => ?_) (fun h4 => ?_)
  · refine pv_iconst d_O_isUpNode_23 (nI 0) (by decide) ?_
    refine pv_zret d_O_isUpNode_24 (by first | rfl | decide) ?_
    exact k
  · exact absurd rfl h4

set_option maxRecDepth 100000 in
set_option maxHeartbeats 4000000 in
theorem k_O_isUpNode {post : Int32 → List va_E → Prop} {n : Nat} (hn : n < 5) (k : post (nI (b2 (decide (σ 1 n ≠ 0)))) (memX σ ++ ρ)) : pv_M l D ty base b 1 0 0 (fun _ => True) y_O_isUpNode c_O_isUpNode 2 (some .boolean) [.ref (0 + 1), .int (nI n)] (memX σ ++ ρ) (pv_QI D ty base b post) := by
  refine pv_enter [some (.ref (0 + 1)), some (.int (nI n))] (by decide) (fun _ => rfl) (fun _ => Nat.le_of_ble_eq_true rfl) ?_
  refine pv_iload_n d_O_isUpNode_0 rfl rfl ?_
  refine pv_callS1I d_O_isUpNode_1 (k_O_isNode hn ?_) sb_O_isNode wm_O_39 ws_O_isNode (by decide) (by decide) (Nat.le_of_ble_eq_true rfl) (by decide) (by decide)
  first | refine pv_ifN_eq 23 (by decide) d_O_isUpNode_4 (by first | assumption | omega) (fun h4 => ?_) (fun h4 => ?_) | refine pv_if_eq 23 (by decide) d_O_isUpNode_4 (fun h4 => ?_) (fun h4 => ?_)
  · refine pv_iconst d_O_isUpNode_23 (nI 0) (by decide) ?_
    refine pv_zret d_O_isUpNode_24 (by first | rfl | decide) ?_
    exact absurd h4 (by decide)
  · refine pv_aload_n d_O_isUpNode_7 rfl rfl ?_
    refine gO_nodes d_O_isUpNode_8 ff_O_11 ?_
    refine pv_iload_n d_O_isUpNode_11 rfl rfl ?_
    refine l_nodes d_O_isUpNode_12 (by first | assumption | omega) ?_
    refine pv_callV0I d_O_isUpNode_13 (k_N_isUp hn ?_) sb_N_isUp wm_O_43 (gx_N (by first | assumption | omega)) rfl ⟨wi_N_isUp, we_N_isUp⟩ (by decide) (by decide) (Nat.le_of_ble_eq_true rfl) (by decide) (by decide)
    have hbb := b2_lt (decide (σ 1 n ≠ 0))
    first | refine pv_ifN_eq 23 (by decide) d_O_isUpNode_16 (by first | assumption | omega) (fun h16 => ?_) (fun h16 => ?_) | refine pv_if_eq 23 (by decide) d_O_isUpNode_16 (fun h16 => ?_) (fun h16 => ?_)
    · refine pv_iconst d_O_isUpNode_23 (nI 0) (by decide) ?_
      refine pv_zret d_O_isUpNode_24 (by first | rfl | decide) ?_
      rw [b2_0.mp h16] at k
      exact k
    · refine pv_iconst d_O_isUpNode_19 (nI 1) (by decide) ?_
      refine pv_goto 24 (by decide) d_O_isUpNode_20 ?_
      refine pv_zret d_O_isUpNode_24 (by first | rfl | decide) ?_
      rw [b2_n0.mp h16] at k
      exact k

end OWN2
