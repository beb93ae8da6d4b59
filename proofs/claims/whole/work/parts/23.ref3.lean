/-! 23.ref3: finish, share, form of the reference -/
section REF3
variable {l : Launch} {D : va_G} {ty : Nat → ClassId} {base b : Nat} {τ : Nat → Nat → Nat} {ρ ξ : List va_E}
variable {M : List va_E}
theorem tb_div_0 {a q : Nat} : a / 2 ^ q &&& 1 = 0 ↔ a.testBit q = false := by
  rw [tb_div0]
  cases a.testBit q <;> decide
theorem nI_m1 (j : Nat) : nI j + Int32.ofInt (-1) = nI j - 1 := by
  rw [Int32.sub_eq_add_neg]
  rfl
set_option maxRecDepth 100000 in
set_option maxHeartbeats 4000000 in
theorem k_Y_finish {post : List va_E → Prop} (hξ : ξ.length = 40) {n c : Nat} (hn : n < 5) (hc : c < 2 ^ 31) (hb : bY τ) (ok : y_fnOK n c (48 - τ 4 n) (τ 4 n + 1) false τ) (k : post (ξ ++ memY (y_fn n c (48 - τ 4 n) (τ 4 n + 1) false τ))) : pv_M l D ty base b 2 0 0 (fun _ => True) y_Y_finish c_Y_finish 7 none [.ref (40 + 1), .int (nI (n)), .int (nI (c))] (ξ ++ memY τ) (pv_QV D ty base b post) := by
  refine pv_enter [some (.ref (40 + 1)), some (.int (nI (n))), some (.int (nI (c))), none, none, none, none] (by decide) (fun _ => rfl) (fun _ => Nat.le_of_ble_eq_true rfl) ?_
  have q4 : τ 4 n < 49 := hb 4 n
  have loop : ∀ (j i : Nat) (g : Bool) (s : Nat → Nat → Nat), i + j = 49 → bY s → y_fnOK n c j i g s → post (ξ ++ memY (y_fn n c j i g s)) → pv_V l D ty base b c_Y_finish 7 y_Y_finish.cls none y_Y_finish.name (pv_rm 2 0 0) (fun _ => True) (pv_Qf base 0 0 (pv_QV D ty base b post)) 0 0 12 [some (.ref (40 + 1)), some (.int (nI (n))), some (.int (nI (c))), some (.int (nI (b2 g))), some (.int (nI (i))), none, none] [] (ξ ++ memY s) := by
    intro j
    induction j with
    | zero =>
      intro i g s hi hs ok k
      refine pv_iload d_Y_finish_12 rfl ?_
      refine pv_bipush d_Y_finish_14 (nI 48) (by decide) ?_
      first | refine pv_icmpN_gt 116 (by decide) d_Y_finish_16 (by first | assumption | omega | exact Nat.lt_of_le_of_lt Nat.and_le_right (by decide)) (by first | assumption | omega | exact Nat.lt_of_le_of_lt Nat.and_le_right (by decide)) (fun h16 => ?_) (fun h16 => ?_) | refine pv_icmp_gt 116 (by decide) d_Y_finish_16 (fun h16 => ?_) (fun h16 => ?_)
      · refine pv_vret d_Y_finish_116 ?_
        exact k
      · omega
    | succ j ih =>
      intro i g s hi hs ok k
      unfold y_fn at k
      unfold y_fnOK at ok
      refine pv_iload d_Y_finish_12 rfl ?_
      refine pv_bipush d_Y_finish_14 (nI 48) (by decide) ?_
      first | refine pv_icmpN_gt 116 (by decide) d_Y_finish_16 (by first | assumption | omega | exact Nat.lt_of_le_of_lt Nat.and_le_right (by decide)) (by first | assumption | omega | exact Nat.lt_of_le_of_lt Nat.and_le_right (by decide)) (fun h16 => ?_) (fun h16 => ?_) | refine pv_icmp_gt 116 (by decide) d_Y_finish_16 (fun h16 => ?_) (fun h16 => ?_)
      · omega
      · have q2 : s 2 n < 520 := hs 2 n
        have hbg := b2_lt g
        have hm := y_msg_lt (r := s 2 n) (q := i) hs
        have q7 : s 7 (49 * n + y_msg s (s 2 n) i) < 2 := hs 7 _
        have q11 : s 11 (y_msg s (s 2 n) i) < 5 := hs 11 _
        refine pv_aload_n d_Y_finish_19 rfl rfl ?_
        refine pv_aload_n d_Y_finish_20 rfl rfl ?_
        refine gY_ringOf d_Y_finish_21 ff_Y_17 (by first | assumption | omega) ?_
        refine pv_iload_n d_Y_finish_24 rfl rfl ?_
        refine ly_ringOf d_Y_finish_25 (by first | assumption | omega) (by first | assumption | omega) ?_
        refine pv_iload d_Y_finish_26 rfl ?_
        refine pv_callV2I d_Y_finish_28 (k_Y_message hξ (by omega) (by omega) hs ?_) sb_Y_message wm_Y_83 (gy_Y (by first | assumption | omega)) rfl ⟨wi_Y_message, we_Y_message⟩ (by decide) (by decide) (Nat.le_of_ble_eq_true rfl) (by decide) (by decide)
        refine pv_ist5 d_Y_finish_31 rfl (by decide) ?_
        refine pv_iload d_Y_finish_33 rfl ?_
        first | refine pv_ifN_le 57 (by decide) d_Y_finish_35 (by first | assumption | omega | exact Nat.lt_of_le_of_lt Nat.and_le_right (by decide)) (fun h35 => ?_) (fun h35 => ?_) | refine pv_if_le 57 (by decide) d_Y_finish_35 (fun h35 => ?_) (fun h35 => ?_)
        · refine pv_iconst d_Y_finish_57 (nI 0) (by decide) ?_
          refine pv_ist6 d_Y_finish_58 rfl (by decide) ?_
          refine pv_iload_n d_Y_finish_60 rfl rfl ?_
          first | refine pv_ifN_ne 69 (by decide) d_Y_finish_61 (by first | assumption | omega | exact Nat.lt_of_le_of_lt Nat.and_le_right (by decide)) (fun h61 => ?_) (fun h61 => ?_) | refine pv_if_ne 69 (by decide) d_Y_finish_61 (fun h61 => ?_) (fun h61 => ?_)
          · refine pv_iconst d_Y_finish_69 (nI 1) (by decide) ?_
            refine pv_goto 74 (by decide) d_Y_finish_70 ?_
            refine pv_ist3 d_Y_finish_74 rfl (by decide) ?_
            refine pv_iload d_Y_finish_75 rfl ?_
            first | refine pv_ifN_eq 110 (by decide) d_Y_finish_77 (by first | assumption | omega | exact Nat.lt_of_le_of_lt Nat.and_le_right (by decide)) (fun h77 => ?_) (fun h77 => ?_) | refine pv_if_eq 110 (by decide) d_Y_finish_77 (fun h77 => ?_) (fun h77 => ?_)
            · refine pv_inc4 d_Y_finish_110 rfl (by decide) ?_
              refine pv_goto 12 (by decide) d_Y_finish_113 ?_
              refine pv_fg5 (pv_fg6 ?_)
              have hx : ¬ y_has s n i = true := fun z9 => (fun z => by have h9 := z.1; omega) (of_decide_eq_true z9 : 0 < y_msg s (s 2 n) i ∧ s 7 (49 * n + y_msg s (s 2 n) i) ≠ 0)
              rw [if_neg hx] at k ok
              exact ih (i + 1) true s (by omega) hs ok k
            · omega
          · refine pv_iload d_Y_finish_64 rfl ?_
            first | refine pv_ifN_ne 73 (by decide) d_Y_finish_66 (by first | assumption | omega | exact Nat.lt_of_le_of_lt Nat.and_le_right (by decide)) (fun h66 => ?_) (fun h66 => ?_) | refine pv_if_ne 73 (by decide) d_Y_finish_66 (fun h66 => ?_) (fun h66 => ?_)
            · omega
            · refine pv_iconst d_Y_finish_69 (nI 1) (by decide) ?_
              refine pv_goto 74 (by decide) d_Y_finish_70 ?_
              refine pv_ist3 d_Y_finish_74 rfl (by decide) ?_
              refine pv_iload d_Y_finish_75 rfl ?_
              first | refine pv_ifN_eq 110 (by decide) d_Y_finish_77 (by first | assumption | omega | exact Nat.lt_of_le_of_lt Nat.and_le_right (by decide)) (fun h77 => ?_) (fun h77 => ?_) | refine pv_if_eq 110 (by decide) d_Y_finish_77 (fun h77 => ?_) (fun h77 => ?_)
              · refine pv_inc4 d_Y_finish_110 rfl (by decide) ?_
                refine pv_goto 12 (by decide) d_Y_finish_113 ?_
                refine pv_fg5 (pv_fg6 ?_)
                have hx : ¬ y_has s n i = true := fun z9 => (fun z => by have h9 := z.1; omega) (of_decide_eq_true z9 : 0 < y_msg s (s 2 n) i ∧ s 7 (49 * n + y_msg s (s 2 n) i) ≠ 0)
                rw [if_neg hx] at k ok
                exact ih (i + 1) true s (by omega) hs ok k
              · omega
        · refine pv_aload_n d_Y_finish_38 rfl rfl ?_
          refine gY_hold d_Y_finish_39 ff_Y_32 (by first | assumption | omega) ?_
          refine pv_bipush d_Y_finish_42 (nI 49) (by decide) ?_
          refine pv_iload_n d_Y_finish_44 rfl rfl ?_
          first | refine pv_imulN d_Y_finish_45 ?_ | refine pv_imul d_Y_finish_45 ?_
          refine pv_iload d_Y_finish_46 rfl ?_
          first | refine pv_iaddN d_Y_finish_48 ?_ | refine pv_iadd d_Y_finish_48 ?_
          refine ly_hold d_Y_finish_49 (by first | assumption | omega) (by first | assumption | omega) ?_
          first | refine pv_ifN_eq 57 (by decide) d_Y_finish_50 (by first | assumption | omega | exact Nat.lt_of_le_of_lt Nat.and_le_right (by decide)) (fun h50 => ?_) (fun h50 => ?_) | refine pv_if_eq 57 (by decide) d_Y_finish_50 (fun h50 => ?_) (fun h50 => ?_)
          · refine pv_iconst d_Y_finish_57 (nI 0) (by decide) ?_
            refine pv_ist6 d_Y_finish_58 rfl (by decide) ?_
            refine pv_iload_n d_Y_finish_60 rfl rfl ?_
            first | refine pv_ifN_ne 69 (by decide) d_Y_finish_61 (by first | assumption | omega | exact Nat.lt_of_le_of_lt Nat.and_le_right (by decide)) (fun h61 => ?_) (fun h61 => ?_) | refine pv_if_ne 69 (by decide) d_Y_finish_61 (fun h61 => ?_) (fun h61 => ?_)
            · refine pv_iconst d_Y_finish_69 (nI 1) (by decide) ?_
              refine pv_goto 74 (by decide) d_Y_finish_70 ?_
              refine pv_ist3 d_Y_finish_74 rfl (by decide) ?_
              refine pv_iload d_Y_finish_75 rfl ?_
              first | refine pv_ifN_eq 110 (by decide) d_Y_finish_77 (by first | assumption | omega | exact Nat.lt_of_le_of_lt Nat.and_le_right (by decide)) (fun h77 => ?_) (fun h77 => ?_) | refine pv_if_eq 110 (by decide) d_Y_finish_77 (fun h77 => ?_) (fun h77 => ?_)
              · refine pv_inc4 d_Y_finish_110 rfl (by decide) ?_
                refine pv_goto 12 (by decide) d_Y_finish_113 ?_
                refine pv_fg5 (pv_fg6 ?_)
                have hx : ¬ y_has s n i = true := fun z9 => (fun z => z.2 h50) (of_decide_eq_true z9 : 0 < y_msg s (s 2 n) i ∧ s 7 (49 * n + y_msg s (s 2 n) i) ≠ 0)
                rw [if_neg hx] at k ok
                exact ih (i + 1) true s (by omega) hs ok k
              · omega
            · refine pv_iload d_Y_finish_64 rfl ?_
              first | refine pv_ifN_ne 73 (by decide) d_Y_finish_66 (by first | assumption | omega | exact Nat.lt_of_le_of_lt Nat.and_le_right (by decide)) (fun h66 => ?_) (fun h66 => ?_) | refine pv_if_ne 73 (by decide) d_Y_finish_66 (fun h66 => ?_) (fun h66 => ?_)
              · omega
              · refine pv_iconst d_Y_finish_69 (nI 1) (by decide) ?_
                refine pv_goto 74 (by decide) d_Y_finish_70 ?_
                refine pv_ist3 d_Y_finish_74 rfl (by decide) ?_
                refine pv_iload d_Y_finish_75 rfl ?_
                first | refine pv_ifN_eq 110 (by decide) d_Y_finish_77 (by first | assumption | omega | exact Nat.lt_of_le_of_lt Nat.and_le_right (by decide)) (fun h77 => ?_) (fun h77 => ?_) | refine pv_if_eq 110 (by decide) d_Y_finish_77 (fun h77 => ?_) (fun h77 => ?_)
                · refine pv_inc4 d_Y_finish_110 rfl (by decide) ?_
                  refine pv_goto 12 (by decide) d_Y_finish_113 ?_
                  refine pv_fg5 (pv_fg6 ?_)
                  have hx : ¬ y_has s n i = true := fun z9 => (fun z => z.2 h50) (of_decide_eq_true z9 : 0 < y_msg s (s 2 n) i ∧ s 7 (49 * n + y_msg s (s 2 n) i) ≠ 0)
                  rw [if_neg hx] at k ok
                  exact ih (i + 1) true s (by omega) hs ok k
                · omega
          · refine pv_iconst d_Y_finish_53 (nI 1) (by decide) ?_
            refine pv_goto 58 (by decide) d_Y_finish_54 ?_
            refine pv_ist6 d_Y_finish_58 rfl (by decide) ?_
            refine pv_iload_n d_Y_finish_60 rfl rfl ?_
            first | refine pv_ifN_ne 69 (by decide) d_Y_finish_61 (by first | assumption | omega | exact Nat.lt_of_le_of_lt Nat.and_le_right (by decide)) (fun h61 => ?_) (fun h61 => ?_) | refine pv_if_ne 69 (by decide) d_Y_finish_61 (fun h61 => ?_) (fun h61 => ?_)
            · refine pv_iconst d_Y_finish_69 (nI 1) (by decide) ?_
              refine pv_goto 74 (by decide) d_Y_finish_70 ?_
              refine pv_ist3 d_Y_finish_74 rfl (by decide) ?_
              refine pv_iload d_Y_finish_75 rfl ?_
              first | refine pv_ifN_eq 110 (by decide) d_Y_finish_77 (by first | assumption | omega | exact Nat.lt_of_le_of_lt Nat.and_le_right (by decide)) (fun h77 => ?_) (fun h77 => ?_) | refine pv_if_eq 110 (by decide) d_Y_finish_77 (fun h77 => ?_) (fun h77 => ?_)
              · omega
              · refine pv_iload_n d_Y_finish_80 rfl rfl ?_
                first | refine pv_ifN_eq 99 (by decide) d_Y_finish_81 (by first | assumption | omega | exact Nat.lt_of_le_of_lt Nat.and_le_right (by decide)) (fun h81 => ?_) (fun h81 => ?_) | refine pv_if_eq 99 (by decide) d_Y_finish_81 (fun h81 => ?_) (fun h81 => ?_)
                · omega
                · refine pv_iload_n d_Y_finish_84 rfl rfl ?_
                  refine pv_aload_n d_Y_finish_85 rfl rfl ?_
                  refine gY_origin d_Y_finish_86 ff_Y_41 (by first | assumption | omega) ?_
                  refine pv_iload d_Y_finish_89 rfl ?_
                  refine ly_origin d_Y_finish_91 (by first | assumption | omega) (by first | assumption | omega) ?_
                  refine pv_ishrN d_Y_finish_92 (by first | assumption | omega) (by first | assumption | omega) ?_
                  refine pv_iconst d_Y_finish_93 (nI 1) (by decide) ?_
                  first | refine pv_iandN d_Y_finish_94 ?_ | refine pv_iand d_Y_finish_94 ?_
                  refine pv_iconst d_Y_finish_95 (nI 1) (by decide) ?_
                  first | refine pv_icmpN_ne 110 (by decide) d_Y_finish_96 (by first | assumption | omega | exact Nat.lt_of_le_of_lt Nat.and_le_right (by decide)) (by first | assumption | omega | exact Nat.lt_of_le_of_lt Nat.and_le_right (by decide)) (fun h96 => ?_) (fun h96 => ?_) | refine pv_icmp_ne 110 (by decide) d_Y_finish_96 (fun h96 => ?_) (fun h96 => ?_)
                  · refine pv_inc4 d_Y_finish_110 rfl (by decide) ?_
                    refine pv_goto 12 (by decide) d_Y_finish_113 ?_
                    refine pv_fg5 (pv_fg6 ?_)
                    obtain rfl : g = true := b2_n0.mp h61
                    have hx : y_has s n i = true := decide_eq_true ⟨h35, h50⟩
                    have hf : ¬ y_fc s n c i true = true := fun z9 => (of_decide_eq_true z9 : true = false ∨ c.testBit (s 11 (y_msg s (s 2 n) i)) = true).elim (fun q => absurd q (by decide)) (fun q => h96 (tb_div.mpr q))
                    rw [if_pos hx, if_neg hf] at k ok
                    exact ih (i + 1) true s (by omega) hs ok k
                  · obtain rfl : g = true := b2_n0.mp h61
                    have hx : y_has s n i = true := decide_eq_true ⟨h35, h50⟩
                    have hf : y_fc s n c i true = true := decide_eq_true (Or.inr (tb_div.mp h96))
                    rw [if_pos hx, if_pos hf] at k ok
                    refine pv_aload_n d_Y_finish_99 rfl rfl ?_
                    refine pv_iload_n d_Y_finish_100 rfl rfl ?_
                    refine pv_iconst d_Y_finish_101 (nI 2) (by decide) ?_
                    refine pv_iload d_Y_finish_102 rfl ?_
                    first | refine pv_imulN d_Y_finish_104 ?_ | refine pv_imul d_Y_finish_104 ?_
                    refine pv_iconst d_Y_finish_105 (nI 1) (by decide) ?_
                    first | refine pv_iaddN d_Y_finish_106 ?_ | refine pv_iadd d_Y_finish_106 ?_
                    refine pv_callV2V d_Y_finish_107 (k_Y_append hξ hn ok.1 ?_) sb_Y_append wm_Y_101 (gy_Y (by first | assumption | omega)) rfl ⟨wi_Y_append, we_Y_append⟩ (by decide) (by decide) (Nat.le_of_ble_eq_true rfl) (by decide) (by decide)
                    refine pv_inc4 d_Y_finish_110 rfl (by decide) ?_
                    refine pv_goto 12 (by decide) d_Y_finish_113 ?_
                    refine pv_fg5 (pv_fg6 ?_)
                    exact ih (i + 1) true _ (by omega) (bY_fa hs ok.1) ok.2 k
            · refine pv_iload d_Y_finish_64 rfl ?_
              first | refine pv_ifN_ne 73 (by decide) d_Y_finish_66 (by first | assumption | omega | exact Nat.lt_of_le_of_lt Nat.and_le_right (by decide)) (fun h66 => ?_) (fun h66 => ?_) | refine pv_if_ne 73 (by decide) d_Y_finish_66 (fun h66 => ?_) (fun h66 => ?_)
              · refine pv_iconst d_Y_finish_73 (nI 0) (by decide) ?_
                refine pv_ist3 d_Y_finish_74 rfl (by decide) ?_
                refine pv_iload d_Y_finish_75 rfl ?_
                first | refine pv_ifN_eq 110 (by decide) d_Y_finish_77 (by first | assumption | omega | exact Nat.lt_of_le_of_lt Nat.and_le_right (by decide)) (fun h77 => ?_) (fun h77 => ?_) | refine pv_if_eq 110 (by decide) d_Y_finish_77 (fun h77 => ?_) (fun h77 => ?_)
                · omega
                · refine pv_iload_n d_Y_finish_80 rfl rfl ?_
                  first | refine pv_ifN_eq 99 (by decide) d_Y_finish_81 (by first | assumption | omega | exact Nat.lt_of_le_of_lt Nat.and_le_right (by decide)) (fun h81 => ?_) (fun h81 => ?_) | refine pv_if_eq 99 (by decide) d_Y_finish_81 (fun h81 => ?_) (fun h81 => ?_)
                  · obtain rfl : g = false := b2_0.mp h61
                    have hx : y_has s n i = true := decide_eq_true ⟨h35, h50⟩
                    have hf : y_fc s n c i false = true := decide_eq_true (Or.inl rfl)
                    rw [if_pos hx, if_pos hf] at k ok
                    refine pv_aload_n d_Y_finish_99 rfl rfl ?_
                    refine pv_iload_n d_Y_finish_100 rfl rfl ?_
                    refine pv_iconst d_Y_finish_101 (nI 2) (by decide) ?_
                    refine pv_iload d_Y_finish_102 rfl ?_
                    first | refine pv_imulN d_Y_finish_104 ?_ | refine pv_imul d_Y_finish_104 ?_
                    refine pv_iconst d_Y_finish_105 (nI 1) (by decide) ?_
                    first | refine pv_iaddN d_Y_finish_106 ?_ | refine pv_iadd d_Y_finish_106 ?_
                    refine pv_callV2V d_Y_finish_107 (k_Y_append hξ hn ok.1 ?_) sb_Y_append wm_Y_101 (gy_Y (by first | assumption | omega)) rfl ⟨wi_Y_append, we_Y_append⟩ (by decide) (by decide) (Nat.le_of_ble_eq_true rfl) (by decide) (by decide)
                    refine pv_inc4 d_Y_finish_110 rfl (by decide) ?_
                    refine pv_goto 12 (by decide) d_Y_finish_113 ?_
                    refine pv_fg5 (pv_fg6 ?_)
                    exact ih (i + 1) false _ (by omega) (bY_fa hs ok.1) ok.2 k
                  · omega
              · omega
  refine pv_iconst d_Y_finish_0 (nI 0) (by decide) ?_
  refine pv_ist3 d_Y_finish_1 rfl (by decide) ?_
  refine pv_aload_n d_Y_finish_2 rfl rfl ?_
  refine gY_placeOf d_Y_finish_3 ff_Y_23 (by first | assumption | omega) ?_
  refine pv_iload_n d_Y_finish_6 rfl rfl ?_
  refine ly_placeOf d_Y_finish_7 (by first | assumption | omega) (by first | assumption | omega) ?_
  refine pv_iconst d_Y_finish_8 (nI 1) (by decide) ?_
  first | refine pv_iaddN d_Y_finish_9 ?_ | refine pv_iadd d_Y_finish_9 ?_
  refine pv_ist4 d_Y_finish_10 rfl (by decide) ?_
  exact loop (48 - τ 4 n) (τ 4 n + 1) false τ (by omega) hb ok k

set_option maxRecDepth 100000 in
set_option maxHeartbeats 4000000 in
theorem k_Y_share {post : List va_E → Prop} (hξ : ξ.length = 40) {c : Nat} (hc : c < 2 ^ 31) (hb : bY τ) (ok : y_shareOK τ c) (k : post (ξ ++ memY (y_share τ c))) : pv_M l D ty base b 3 0 0 (fun _ => True) y_Y_share c_Y_share 6 none [.ref (40 + 1), .int (nI (c))] (ξ ++ memY τ) (pv_QV D ty base b post) := by
  refine pv_enter [some (.ref (40 + 1)), some (.int (nI (c))), none, none, none, none] (by decide) (fun _ => rfl) (fun _ => Nat.le_of_ble_eq_true rfl) ?_
  have hl := y_sl_lt (c := c) hb 5
  have loop3 : ∀ (j i : Nat), i + j = 5 → pv_V l D ty base b c_Y_share 6 y_Y_share.cls none y_Y_share.name (pv_rm 3 0 0) (fun _ => True) (pv_Qf base 0 0 (pv_QV D ty base b post)) 0 0 170 [some (.ref (40 + 1)), some (.int (nI (c))), some (.int (nI (y_sl τ c 5))), some (.int (nI (i))), none, none] [] (ξ ++ memY (y_s3 c (y_sl τ c 5) (y_sh c τ 48) i)) := by
    intro j
    induction j with
    | zero =>
      intro i hi
      refine pv_iload_n d_Y_share_170 rfl rfl ?_
      refine pv_iconst d_Y_share_171 (nI 5) (by decide) ?_
      first | refine pv_icmpN_ge 208 (by decide) d_Y_share_172 (by first | assumption | omega | exact Nat.lt_of_le_of_lt Nat.and_le_right (by decide)) (by first | assumption | omega | exact Nat.lt_of_le_of_lt Nat.and_le_right (by decide)) (fun h172 => ?_) (fun h172 => ?_) | refine pv_icmp_ge 208 (by decide) d_Y_share_172 (fun h172 => ?_) (fun h172 => ?_)
      · refine pv_vret d_Y_share_208 ?_
        obtain rfl : i = 5 := by omega
        exact k
      · omega
    | succ j ih =>
      intro i hi
      refine pv_iload_n d_Y_share_170 rfl rfl ?_
      refine pv_iconst d_Y_share_171 (nI 5) (by decide) ?_
      first | refine pv_icmpN_ge 208 (by decide) d_Y_share_172 (by first | assumption | omega | exact Nat.lt_of_le_of_lt Nat.and_le_right (by decide)) (by first | assumption | omega | exact Nat.lt_of_le_of_lt Nat.and_le_right (by decide)) (fun h172 => ?_) (fun h172 => ?_) | refine pv_icmp_ge 208 (by decide) d_Y_share_172 (fun h172 => ?_) (fun h172 => ?_)
      · omega
      · refine pv_iload_n d_Y_share_175 rfl rfl ?_
        refine pv_iload_n d_Y_share_176 rfl rfl ?_
        refine pv_ishrN d_Y_share_177 (by first | assumption | omega) (by first | assumption | omega) ?_
        refine pv_iconst d_Y_share_178 (nI 1) (by decide) ?_
        first | refine pv_iandN d_Y_share_179 ?_ | refine pv_iand d_Y_share_179 ?_
        refine pv_iconst d_Y_share_180 (nI 1) (by decide) ?_
        first | refine pv_icmpN_ne 202 (by decide) d_Y_share_181 (by first | assumption | omega | exact Nat.lt_of_le_of_lt Nat.and_le_right (by decide)) (by first | assumption | omega | exact Nat.lt_of_le_of_lt Nat.and_le_right (by decide)) (fun h181 => ?_) (fun h181 => ?_) | refine pv_icmp_ne 202 (by decide) d_Y_share_181 (fun h181 => ?_) (fun h181 => ?_)
        · refine pv_inc3 d_Y_share_202 rfl (by decide) ?_
          refine pv_goto 170 (by decide) d_Y_share_205 ?_
          have hz := ih (i + 1) (by omega)
          rw [y_s3_s] at hz
          rw [if_neg (fun z => h181 (tb_div.mpr z))] at hz
          exact hz
        · refine pv_aload_n d_Y_share_184 rfl rfl ?_
          refine gY_lineOf d_Y_share_185 ff_Y_20 (by first | assumption | omega) ?_
          refine pv_iload_n d_Y_share_188 rfl rfl ?_
          refine pv_iload_n d_Y_share_189 rfl rfl ?_
          refine sy_lineOf d_Y_share_190 (by first | assumption | omega) (by first | assumption | omega) ?_
          refine pv_aload_n d_Y_share_191 rfl rfl ?_
          refine pv_iload_n d_Y_share_192 rfl rfl ?_
          refine pv_callV1V d_Y_share_193 (k_Y_deliver hξ (by omega) (bY_sU (bY_s3 (bY_sh hb 48) hl ok i (by omega)) hl) (ok i (by omega) (tb_div.mp h181)).1 ?_) sb_Y_deliver wm_Y_122 (gy_Y (by first | assumption | omega)) rfl ⟨wi_Y_deliver, we_Y_deliver⟩ (by decide) (by decide) (Nat.le_of_ble_eq_true rfl) (by decide) (by decide)
          refine pv_aload_n d_Y_share_196 rfl rfl ?_
          refine pv_iload_n d_Y_share_197 rfl rfl ?_
          refine pv_iload_n d_Y_share_198 rfl rfl ?_
          refine pv_callV2V d_Y_share_199 (k_Y_finish hξ (by omega) hc (bY_s1 (bY_s3 (bY_sh hb 48) hl ok i (by omega)) hl (ok i (by omega) (tb_div.mp h181)).1) (ok i (by omega) (tb_div.mp h181)).2 ?_) sb_Y_finish wm_Y_138 (gy_Y (by first | assumption | omega)) rfl ⟨wi_Y_finish, we_Y_finish⟩ (by decide) (by decide) (Nat.le_of_ble_eq_true rfl) (by decide) (by decide)
          refine pv_inc3 d_Y_share_202 rfl (by decide) ?_
          refine pv_goto 170 (by decide) d_Y_share_205 ?_
          have hz := ih (i + 1) (by omega)
          rw [y_s3_s] at hz
          rw [if_pos (tb_div.mp h181)] at hz
          exact hz
  have loop2 : ∀ (j i : Nat), i + j = 48 → pv_V l D ty base b c_Y_share 6 y_Y_share.cls none y_Y_share.name (pv_rm 3 0 0) (fun _ => True) (pv_Qf base 0 0 (pv_QV D ty base b post)) 0 0 47 [some (.ref (40 + 1)), some (.int (nI (c))), some (.int (nI (y_sl τ c 5))), some (.int (nI (i + 1))), none, none] [] (ξ ++ memY (y_sh c τ i)) := by
    intro j
    induction j with
    | zero =>
      intro i hi
      obtain rfl : i = 48 := by omega
      refine pv_iload_n d_Y_share_47 rfl rfl ?_
      refine pv_bipush d_Y_share_48 (nI 48) (by decide) ?_
      first | refine pv_icmpN_gt 168 (by decide) d_Y_share_50 (by first | assumption | omega | exact Nat.lt_of_le_of_lt Nat.and_le_right (by decide)) (by first | assumption | omega | exact Nat.lt_of_le_of_lt Nat.and_le_right (by decide)) (fun h50 => ?_) (fun h50 => ?_) | refine pv_icmp_gt 168 (by decide) d_Y_share_50 (fun h50 => ?_) (fun h50 => ?_)
      · refine pv_iconst d_Y_share_168 (nI 0) (by decide) ?_
        refine pv_ist3 d_Y_share_169 rfl (by decide) ?_
        exact loop3 5 0 rfl
      · omega
    | succ j ih =>
      intro i hi
      have loopB : ∀ (j2 i2 : Nat), i2 + j2 = 5 → pv_V l D ty base b c_Y_share 6 y_Y_share.cls none y_Y_share.name (pv_rm 3 0 0) (fun _ => True) (pv_Qf base 0 0 (pv_QV D ty base b post)) 0 0 111 [some (.ref (40 + 1)), some (.int (nI (c))), some (.int (nI (y_sl τ c 5))), some (.int (nI (i + 1))), some (.int (nI (b2 (y_one (y_sh c τ i) c (i + 1) 5)))), some (.int (nI (i2)))] [] (ξ ++ memY (y_sp c (i + 1) (y_one (y_sh c τ i) c (i + 1) 5) (y_sh c τ i) i2)) := by
        intro j2
        induction j2 with
        | zero =>
          intro i2 hi2
          refine pv_iload d_Y_share_111 rfl ?_
          refine pv_iconst d_Y_share_113 (nI 5) (by decide) ?_
          first | refine pv_icmpN_ge 162 (by decide) d_Y_share_114 (by first | assumption | omega | exact Nat.lt_of_le_of_lt Nat.and_le_right (by decide)) (by first | assumption | omega | exact Nat.lt_of_le_of_lt Nat.and_le_right (by decide)) (fun h114 => ?_) (fun h114 => ?_) | refine pv_icmp_ge 162 (by decide) d_Y_share_114 (fun h114 => ?_) (fun h114 => ?_)
          · refine pv_inc3 d_Y_share_162 rfl (by decide) ?_
            refine pv_goto 47 (by decide) d_Y_share_165 ?_
            obtain rfl : i2 = 5 := by omega
            refine pv_fg4 (pv_fg5 ?_)
            exact ih (i + 1) (by omega)
          · omega
        | succ j2 ih2 =>
          intro i2 hi2
          refine pv_iload d_Y_share_111 rfl ?_
          refine pv_iconst d_Y_share_113 (nI 5) (by decide) ?_
          first | refine pv_icmpN_ge 162 (by decide) d_Y_share_114 (by first | assumption | omega | exact Nat.lt_of_le_of_lt Nat.and_le_right (by decide)) (by first | assumption | omega | exact Nat.lt_of_le_of_lt Nat.and_le_right (by decide)) (fun h114 => ?_) (fun h114 => ?_) | refine pv_icmp_ge 162 (by decide) d_Y_share_114 (fun h114 => ?_) (fun h114 => ?_)
          · omega
          · have hbo := b2_le (y_one (y_sh c τ i) c (i + 1) 5)
            have q7 : y_sp c (i + 1) (y_one (y_sh c τ i) c (i + 1) 5) (y_sh c τ i) i2 7 (49 * i2 + (i + 1)) < 2 := bY_sp (bY_sh hb i) i2 7 _
            refine pv_aload_n d_Y_share_117 rfl rfl ?_
            refine gY_hold d_Y_share_118 ff_Y_32 (by first | assumption | omega) ?_
            refine pv_bipush d_Y_share_121 (nI 49) (by decide) ?_
            refine pv_iload d_Y_share_123 rfl ?_
            first | refine pv_imulN d_Y_share_125 ?_ | refine pv_imul d_Y_share_125 ?_
            refine pv_iload_n d_Y_share_126 rfl rfl ?_
            first | refine pv_iaddN d_Y_share_127 ?_ | refine pv_iadd d_Y_share_127 ?_
            refine pv_iload_n d_Y_share_128 rfl rfl ?_
            refine pv_iload d_Y_share_129 rfl ?_
            refine pv_ishrN d_Y_share_131 (by first | assumption | omega) (by first | assumption | omega) ?_
            refine pv_iconst d_Y_share_132 (nI 1) (by decide) ?_
            first | refine pv_iandN d_Y_share_133 ?_ | refine pv_iand d_Y_share_133 ?_
            refine pv_iconst d_Y_share_134 (nI 1) (by decide) ?_
            first | refine pv_icmpN_ne 143 (by decide) d_Y_share_135 (by first | assumption | omega | exact Nat.lt_of_le_of_lt Nat.and_le_right (by decide)) (by first | assumption | omega | exact Nat.lt_of_le_of_lt Nat.and_le_right (by decide)) (fun h135 => ?_) (fun h135 => ?_) | refine pv_icmp_ne 143 (by decide) d_Y_share_135 (fun h135 => ?_) (fun h135 => ?_)
            · refine pv_aload_n d_Y_share_143 rfl rfl ?_
              refine gY_hold d_Y_share_144 ff_Y_32 (by first | assumption | omega) ?_
              refine pv_bipush d_Y_share_147 (nI 49) (by decide) ?_
              refine pv_iload d_Y_share_149 rfl ?_
              first | refine pv_imulN d_Y_share_151 ?_ | refine pv_imul d_Y_share_151 ?_
              refine pv_iload_n d_Y_share_152 rfl rfl ?_
              first | refine pv_iaddN d_Y_share_153 ?_ | refine pv_iadd d_Y_share_153 ?_
              refine ly_hold d_Y_share_154 (by first | assumption | omega) (by first | assumption | omega) ?_
              refine sy_hold d_Y_share_155 (by first | assumption | omega) (by first | assumption | omega) (nar_b (by omega)) ?_
              refine pv_inc5 d_Y_share_156 rfl (by decide) ?_
              refine pv_goto 111 (by decide) d_Y_share_159 ?_
              have hz := ih2 (i2 + 1) (by omega)
              rw [y_sp_s] at hz
              rw [if_neg (fun z => h135 (tb_div.mpr z))] at hz
              exact hz
            · refine pv_iload d_Y_share_138 rfl ?_
              refine pv_goto 155 (by decide) d_Y_share_140 ?_
              refine sy_hold d_Y_share_155 (by first | assumption | omega) (by first | assumption | omega) (nar_b (by omega)) ?_
              refine pv_inc5 d_Y_share_156 rfl (by decide) ?_
              refine pv_goto 111 (by decide) d_Y_share_159 ?_
              have hz := ih2 (i2 + 1) (by omega)
              rw [y_sp_s] at hz
              rw [if_pos (tb_div.mp h135)] at hz
              exact hz
      have loopA : ∀ (j2 i2 : Nat), i2 + j2 = 5 → pv_V l D ty base b c_Y_share 6 y_Y_share.cls none y_Y_share.name (pv_rm 3 0 0) (fun _ => True) (pv_Qf base 0 0 (pv_QV D ty base b post)) 0 0 59 [some (.ref (40 + 1)), some (.int (nI (c))), some (.int (nI (y_sl τ c 5))), some (.int (nI (i + 1))), some (.int (nI (b2 (y_one (y_sh c τ i) c (i + 1) i2)))), some (.int (nI (i2)))] [] (ξ ++ memY (y_sh c τ i)) := by
        intro j2
        induction j2 with
        | zero =>
          intro i2 hi2
          refine pv_iload d_Y_share_59 rfl ?_
          refine pv_iconst d_Y_share_61 (nI 5) (by decide) ?_
          first | refine pv_icmpN_ge 108 (by decide) d_Y_share_62 (by first | assumption | omega | exact Nat.lt_of_le_of_lt Nat.and_le_right (by decide)) (by first | assumption | omega | exact Nat.lt_of_le_of_lt Nat.and_le_right (by decide)) (fun h62 => ?_) (fun h62 => ?_) | refine pv_icmp_ge 108 (by decide) d_Y_share_62 (fun h62 => ?_) (fun h62 => ?_)
          · refine pv_iconst d_Y_share_108 (nI 0) (by decide) ?_
            refine pv_ist5 d_Y_share_109 rfl (by decide) ?_
            obtain rfl : i2 = 5 := by omega
            exact loopB 5 0 rfl
          · omega
        | succ j2 ih2 =>
          intro i2 hi2
          refine pv_iload d_Y_share_59 rfl ?_
          refine pv_iconst d_Y_share_61 (nI 5) (by decide) ?_
          first | refine pv_icmpN_ge 108 (by decide) d_Y_share_62 (by first | assumption | omega | exact Nat.lt_of_le_of_lt Nat.and_le_right (by decide)) (by first | assumption | omega | exact Nat.lt_of_le_of_lt Nat.and_le_right (by decide)) (fun h62 => ?_) (fun h62 => ?_) | refine pv_icmp_ge 108 (by decide) d_Y_share_62 (fun h62 => ?_) (fun h62 => ?_)
          · omega
          · have hbo := b2_lt (y_one (y_sh c τ i) c (i + 1) i2)
            have q7 : (y_sh c τ i) 7 (49 * i2 + (i + 1)) < 2 := bY_sh hb i 7 _
            refine pv_iload d_Y_share_65 rfl ?_
            first | refine pv_ifN_ne 95 (by decide) d_Y_share_67 (by first | assumption | omega | exact Nat.lt_of_le_of_lt Nat.and_le_right (by decide)) (fun h67 => ?_) (fun h67 => ?_) | refine pv_if_ne 95 (by decide) d_Y_share_67 (fun h67 => ?_) (fun h67 => ?_)
            · refine pv_iconst d_Y_share_95 (nI 1) (by decide) ?_
              refine pv_goto 100 (by decide) d_Y_share_96 ?_
              refine pv_ist4 d_Y_share_100 rfl (by decide) ?_
              refine pv_inc5 d_Y_share_102 rfl (by decide) ?_
              refine pv_goto 59 (by decide) d_Y_share_105 ?_
              have hz := ih2 (i2 + 1) (by omega)
              rw [y_one_s] at hz
              rw [b2_n0.mp h67, Bool.true_or] at hz
              exact hz
            · refine pv_iload_n d_Y_share_70 rfl rfl ?_
              refine pv_iload d_Y_share_71 rfl ?_
              refine pv_ishrN d_Y_share_73 (by first | assumption | omega) (by first | assumption | omega) ?_
              refine pv_iconst d_Y_share_74 (nI 1) (by decide) ?_
              first | refine pv_iandN d_Y_share_75 ?_ | refine pv_iand d_Y_share_75 ?_
              refine pv_iconst d_Y_share_76 (nI 1) (by decide) ?_
              first | refine pv_icmpN_ne 99 (by decide) d_Y_share_77 (by first | assumption | omega | exact Nat.lt_of_le_of_lt Nat.and_le_right (by decide)) (by first | assumption | omega | exact Nat.lt_of_le_of_lt Nat.and_le_right (by decide)) (fun h77 => ?_) (fun h77 => ?_) | refine pv_icmp_ne 99 (by decide) d_Y_share_77 (fun h77 => ?_) (fun h77 => ?_)
              · refine pv_iconst d_Y_share_99 (nI 0) (by decide) ?_
                refine pv_ist4 d_Y_share_100 rfl (by decide) ?_
                refine pv_inc5 d_Y_share_102 rfl (by decide) ?_
                refine pv_goto 59 (by decide) d_Y_share_105 ?_
                have hz := ih2 (i2 + 1) (by omega)
                rw [y_one_s] at hz
                rw [b2_0.mp h67, Bool.false_or] at hz
                rw [show y_oc (y_sh c τ i) c (i + 1) i2 = false from decide_eq_false (fun z => h77 (tb_div.mpr z.1))] at hz
                exact hz
              · refine pv_aload_n d_Y_share_80 rfl rfl ?_
                refine gY_hold d_Y_share_81 ff_Y_32 (by first | assumption | omega) ?_
                refine pv_bipush d_Y_share_84 (nI 49) (by decide) ?_
                refine pv_iload d_Y_share_86 rfl ?_
                first | refine pv_imulN d_Y_share_88 ?_ | refine pv_imul d_Y_share_88 ?_
                refine pv_iload_n d_Y_share_89 rfl rfl ?_
                first | refine pv_iaddN d_Y_share_90 ?_ | refine pv_iadd d_Y_share_90 ?_
                refine ly_hold d_Y_share_91 (by first | assumption | omega) (by first | assumption | omega) ?_
                first | refine pv_ifN_eq 99 (by decide) d_Y_share_92 (by first | assumption | omega | exact Nat.lt_of_le_of_lt Nat.and_le_right (by decide)) (fun h92 => ?_) (fun h92 => ?_) | refine pv_if_eq 99 (by decide) d_Y_share_92 (fun h92 => ?_) (fun h92 => ?_)
                · refine pv_iconst d_Y_share_99 (nI 0) (by decide) ?_
                  refine pv_ist4 d_Y_share_100 rfl (by decide) ?_
                  refine pv_inc5 d_Y_share_102 rfl (by decide) ?_
                  refine pv_goto 59 (by decide) d_Y_share_105 ?_
                  have hz := ih2 (i2 + 1) (by omega)
                  rw [y_one_s] at hz
                  rw [b2_0.mp h67, Bool.false_or] at hz
                  rw [show y_oc (y_sh c τ i) c (i + 1) i2 = false from decide_eq_false (fun z => z.2 h92)] at hz
                  exact hz
                · refine pv_iconst d_Y_share_95 (nI 1) (by decide) ?_
                  refine pv_goto 100 (by decide) d_Y_share_96 ?_
                  refine pv_ist4 d_Y_share_100 rfl (by decide) ?_
                  refine pv_inc5 d_Y_share_102 rfl (by decide) ?_
                  refine pv_goto 59 (by decide) d_Y_share_105 ?_
                  have hz := ih2 (i2 + 1) (by omega)
                  rw [y_one_s] at hz
                  rw [b2_0.mp h67, Bool.false_or] at hz
                  rw [show y_oc (y_sh c τ i) c (i + 1) i2 = true from decide_eq_true ⟨tb_div.mp h77, h92⟩] at hz
                  exact hz
      refine pv_iload_n d_Y_share_47 rfl rfl ?_
      refine pv_bipush d_Y_share_48 (nI 48) (by decide) ?_
      first | refine pv_icmpN_gt 168 (by decide) d_Y_share_50 (by first | assumption | omega | exact Nat.lt_of_le_of_lt Nat.and_le_right (by decide)) (by first | assumption | omega | exact Nat.lt_of_le_of_lt Nat.and_le_right (by decide)) (fun h50 => ?_) (fun h50 => ?_) | refine pv_icmp_gt 168 (by decide) d_Y_share_50 (fun h50 => ?_) (fun h50 => ?_)
      · omega
      · refine pv_iconst d_Y_share_53 (nI 0) (by decide) ?_
        refine pv_ist4 d_Y_share_54 rfl (by decide) ?_
        refine pv_iconst d_Y_share_56 (nI 0) (by decide) ?_
        refine pv_ist5 d_Y_share_57 rfl (by decide) ?_
        exact loopA 5 0 rfl
  have loop1 : ∀ (j i : Nat), i + j = 5 → pv_V l D ty base b c_Y_share 6 y_Y_share.cls none y_Y_share.name (pv_rm 3 0 0) (fun _ => True) (pv_Qf base 0 0 (pv_QV D ty base b post)) 0 0 4 [some (.ref (40 + 1)), some (.int (nI (c))), some (.int (nI (y_sl τ c i))), some (.int (nI (i))), none, none] [] (ξ ++ memY τ) := by
    intro j
    induction j with
    | zero =>
      intro i hi
      refine pv_iload_n d_Y_share_4 rfl rfl ?_
      refine pv_iconst d_Y_share_5 (nI 5) (by decide) ?_
      first | refine pv_icmpN_ge 45 (by decide) d_Y_share_6 (by first | assumption | omega | exact Nat.lt_of_le_of_lt Nat.and_le_right (by decide)) (by first | assumption | omega | exact Nat.lt_of_le_of_lt Nat.and_le_right (by decide)) (fun h6 => ?_) (fun h6 => ?_) | refine pv_icmp_ge 45 (by decide) d_Y_share_6 (fun h6 => ?_) (fun h6 => ?_)
      · refine pv_iconst d_Y_share_45 (nI 1) (by decide) ?_
        refine pv_ist3 d_Y_share_46 rfl (by decide) ?_
        obtain rfl : i = 5 := by omega
        exact loop2 48 0 rfl
      · omega
    | succ j ih =>
      intro i hi
      refine pv_iload_n d_Y_share_4 rfl rfl ?_
      refine pv_iconst d_Y_share_5 (nI 5) (by decide) ?_
      first | refine pv_icmpN_ge 45 (by decide) d_Y_share_6 (by first | assumption | omega | exact Nat.lt_of_le_of_lt Nat.and_le_right (by decide)) (by first | assumption | omega | exact Nat.lt_of_le_of_lt Nat.and_le_right (by decide)) (fun h6 => ?_) (fun h6 => ?_) | refine pv_icmp_ge 45 (by decide) d_Y_share_6 (fun h6 => ?_) (fun h6 => ?_)
      · omega
      · have q3 : τ 3 i < 49 := hb 3 i
        have qs := y_sl_lt (c := c) hb i
        refine pv_iload_n d_Y_share_9 rfl rfl ?_
        refine pv_iload_n d_Y_share_10 rfl rfl ?_
        refine pv_ishrN d_Y_share_11 (by first | assumption | omega) (by first | assumption | omega) ?_
        refine pv_iconst d_Y_share_12 (nI 1) (by decide) ?_
        first | refine pv_iandN d_Y_share_13 ?_ | refine pv_iand d_Y_share_13 ?_
        refine pv_iconst d_Y_share_14 (nI 1) (by decide) ?_
        first | refine pv_icmpN_ne 37 (by decide) d_Y_share_15 (by first | assumption | omega | exact Nat.lt_of_le_of_lt Nat.and_le_right (by decide)) (by first | assumption | omega | exact Nat.lt_of_le_of_lt Nat.and_le_right (by decide)) (fun h15 => ?_) (fun h15 => ?_) | refine pv_icmp_ne 37 (by decide) d_Y_share_15 (fun h15 => ?_) (fun h15 => ?_)
        · refine pv_iload_n d_Y_share_37 rfl rfl ?_
          refine pv_ist2 d_Y_share_38 rfl (by decide) ?_
          refine pv_inc3 d_Y_share_39 rfl (by decide) ?_
          refine pv_goto 4 (by decide) d_Y_share_42 ?_
          have hz := ih (i + 1) (by omega)
          rw [y_sl_s] at hz
          rw [if_neg (fun z => h15 (tb_div.mpr z.1))] at hz
          exact hz
        · refine pv_aload_n d_Y_share_18 rfl rfl ?_
          refine gY_lineOf d_Y_share_19 ff_Y_20 (by first | assumption | omega) ?_
          refine pv_iload_n d_Y_share_22 rfl rfl ?_
          refine ly_lineOf d_Y_share_23 (by first | assumption | omega) (by first | assumption | omega) ?_
          refine pv_iload_n d_Y_share_24 rfl rfl ?_
          first | refine pv_icmpN_le 37 (by decide) d_Y_share_25 (by first | assumption | omega | exact Nat.lt_of_le_of_lt Nat.and_le_right (by decide)) (by first | assumption | omega | exact Nat.lt_of_le_of_lt Nat.and_le_right (by decide)) (fun h25 => ?_) (fun h25 => ?_) | refine pv_icmp_le 37 (by decide) d_Y_share_25 (fun h25 => ?_) (fun h25 => ?_)
          · refine pv_iload_n d_Y_share_37 rfl rfl ?_
            refine pv_ist2 d_Y_share_38 rfl (by decide) ?_
            refine pv_inc3 d_Y_share_39 rfl (by decide) ?_
            refine pv_goto 4 (by decide) d_Y_share_42 ?_
            have hz := ih (i + 1) (by omega)
            rw [y_sl_s] at hz
            rw [if_neg (fun z => by have := z.2; omega)] at hz
            exact hz
          · refine pv_aload_n d_Y_share_28 rfl rfl ?_
            refine gY_lineOf d_Y_share_29 ff_Y_20 (by first | assumption | omega) ?_
            refine pv_iload_n d_Y_share_32 rfl rfl ?_
            refine ly_lineOf d_Y_share_33 (by first | assumption | omega) (by first | assumption | omega) ?_
            refine pv_goto 38 (by decide) d_Y_share_34 ?_
            refine pv_ist2 d_Y_share_38 rfl (by decide) ?_
            refine pv_inc3 d_Y_share_39 rfl (by decide) ?_
            refine pv_goto 4 (by decide) d_Y_share_42 ?_
            have hz := ih (i + 1) (by omega)
            rw [y_sl_s] at hz
            rw [if_pos ⟨tb_div.mp h15, h25⟩] at hz
            exact hz
  refine pv_iconst d_Y_share_0 (nI 0) (by decide) ?_
  refine pv_ist2 d_Y_share_1 rfl (by decide) ?_
  refine pv_iconst d_Y_share_2 (nI 0) (by decide) ?_
  refine pv_ist3 d_Y_share_3 rfl (by decide) ?_
  exact loop1 5 0 rfl

end REF3
