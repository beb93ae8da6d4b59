/-! 21.ref2: what more of the reference's private methods do -/
section REF2
variable {l : Launch} {D : va_G} {ty : Nat → ClassId} {base b : Nat} {τ : Nat → Nat → Nat} {ρ ξ : List va_E}
variable {M : List va_E}
set_option maxRecDepth 100000 in
set_option maxHeartbeats 4000000 in
theorem k_Y_deliver {post : List va_E → Prop} (hξ : ξ.length = 40) {n : Nat} (hn : n < 5) (hb : bY τ) (ok : y_delOK n 48 τ) (k : post (ξ ++ memY (y_del n 48 τ))) : pv_M l D ty base b 2 0 0 (fun _ => True) y_Y_deliver c_Y_deliver 6 none [.ref (40 + 1), .int (nI (n))] (ξ ++ memY τ) (pv_QV D ty base b post) := by
  refine pv_enter [some (.ref (40 + 1)), some (.int (nI (n))), none, none, none, none] (by decide) (fun _ => rfl) (fun _ => Nat.le_of_ble_eq_true rfl) ?_
  have ex : ∀ (t : Nat) (s : Nat → Nat → Nat), t < 2 ^ 30 → post (ξ ++ memY s) → pv_V l D ty base b c_Y_deliver 6 y_Y_deliver.cls none y_Y_deliver.name (pv_rm 2 0 0) (fun _ => True) (pv_Qf base 0 0 (pv_QV D ty base b post)) 0 0 4 [some (.ref (40 + 1)), some (.int (nI (n))), some (.int (nI (0))), some (.int (nI (t))), none, none] [] (ξ ++ memY s) := by
    intro t s ht k
    refine pv_iload_n d_Y_deliver_4 rfl rfl ?_
    refine pv_bipush d_Y_deliver_5 (nI 48) (by decide) ?_
    first | refine pv_icmpN_ge 112 (by decide) d_Y_deliver_7 (by first | assumption | omega | exact Nat.lt_of_le_of_lt Nat.and_le_right (by decide)) (by first | assumption | omega | exact Nat.lt_of_le_of_lt Nat.and_le_right (by decide)) (fun h7 => ?_) (fun h7 => ?_) | refine pv_icmp_ge 112 (by decide) d_Y_deliver_7 (fun h7 => ?_) (fun h7 => ?_)
    · refine pv_vret d_Y_deliver_112 ?_
      exact k
    · refine pv_iload_n d_Y_deliver_10 rfl rfl ?_
      first | refine pv_ifN_eq 112 (by decide) d_Y_deliver_11 (by first | assumption | omega | exact Nat.lt_of_le_of_lt Nat.and_le_right (by decide)) (fun h11 => ?_) (fun h11 => ?_) | refine pv_if_eq 112 (by decide) d_Y_deliver_11 (fun h11 => ?_) (fun h11 => ?_)
      · refine pv_vret d_Y_deliver_112 ?_
        exact k
      · exact absurd rfl h11
  have loop : ∀ (j t : Nat) (s : Nat → Nat → Nat), t + j = 48 → bY s → y_delOK n j s → post (ξ ++ memY (y_del n j s)) → pv_V l D ty base b c_Y_deliver 6 y_Y_deliver.cls none y_Y_deliver.name (pv_rm 2 0 0) (fun _ => True) (pv_Qf base 0 0 (pv_QV D ty base b post)) 0 0 4 [some (.ref (40 + 1)), some (.int (nI (n))), some (.int (nI (1))), some (.int (nI (t))), none, none] [] (ξ ++ memY s) := by
    intro j
    induction j with
    | zero =>
      intro t s hi hs ok k
      refine pv_iload_n d_Y_deliver_4 rfl rfl ?_
      refine pv_bipush d_Y_deliver_5 (nI 48) (by decide) ?_
      first | refine pv_icmpN_ge 112 (by decide) d_Y_deliver_7 (by first | assumption | omega | exact Nat.lt_of_le_of_lt Nat.and_le_right (by decide)) (by first | assumption | omega | exact Nat.lt_of_le_of_lt Nat.and_le_right (by decide)) (fun h7 => ?_) (fun h7 => ?_) | refine pv_icmp_ge 112 (by decide) d_Y_deliver_7 (fun h7 => ?_) (fun h7 => ?_)
      · refine pv_vret d_Y_deliver_112 ?_
        exact k
      · omega
    | succ j ih =>
      intro t s hi hs ok k
      unfold y_del at k
      unfold y_delOK at ok
      refine pv_iload_n d_Y_deliver_4 rfl rfl ?_
      refine pv_bipush d_Y_deliver_5 (nI 48) (by decide) ?_
      first | refine pv_icmpN_ge 112 (by decide) d_Y_deliver_7 (by first | assumption | omega | exact Nat.lt_of_le_of_lt Nat.and_le_right (by decide)) (by first | assumption | omega | exact Nat.lt_of_le_of_lt Nat.and_le_right (by decide)) (fun h7 => ?_) (fun h7 => ?_) | refine pv_icmp_ge 112 (by decide) d_Y_deliver_7 (fun h7 => ?_) (fun h7 => ?_)
      · omega
      · refine pv_iload_n d_Y_deliver_10 rfl rfl ?_
        first | refine pv_ifN_eq 112 (by decide) d_Y_deliver_11 (by first | assumption | omega | exact Nat.lt_of_le_of_lt Nat.and_le_right (by decide)) (fun h11 => ?_) (fun h11 => ?_) | refine pv_if_eq 112 (by decide) d_Y_deliver_11 (fun h11 => ?_) (fun h11 => ?_)
        · exact absurd h11 (by decide)
        · have q2 : s 2 n < 520 := hs 2 n
          have q4 : s 4 n < 49 := hs 4 n
          have q3 : s 3 n < 49 := hs 3 n
          have hm := y_msg_lt (r := s 2 n) (q := s 4 n + 1) hs
          have q7 : s 7 (49 * n + y_msg s (s 2 n) (s 4 n + 1)) < 2 := hs 7 _
          have q12 : s 12 (y_msg s (s 2 n) (s 4 n + 1)) < 2 := hs 12 _
          refine pv_aload_n d_Y_deliver_14 rfl rfl ?_
          refine gY_placeOf d_Y_deliver_15 ff_Y_23 (by first | assumption | omega) ?_
          refine pv_iload_n d_Y_deliver_18 rfl rfl ?_
          refine ly_placeOf d_Y_deliver_19 (by first | assumption | omega) (by first | assumption | omega) ?_
          refine pv_iconst d_Y_deliver_20 (nI 1) (by decide) ?_
          first | refine pv_iaddN d_Y_deliver_21 ?_ | refine pv_iadd d_Y_deliver_21 ?_
          refine pv_ist4 d_Y_deliver_22 rfl (by decide) ?_
          refine pv_aload_n d_Y_deliver_24 rfl rfl ?_
          refine pv_aload_n d_Y_deliver_25 rfl rfl ?_
          refine gY_ringOf d_Y_deliver_26 ff_Y_17 (by first | assumption | omega) ?_
          refine pv_iload_n d_Y_deliver_29 rfl rfl ?_
          refine ly_ringOf d_Y_deliver_30 (by first | assumption | omega) (by first | assumption | omega) ?_
          refine pv_iload d_Y_deliver_31 rfl ?_
          refine pv_callV2I d_Y_deliver_33 (k_Y_message hξ (by omega) (by omega) hs ?_) sb_Y_message wm_Y_83 (gy_Y (by first | assumption | omega)) rfl ⟨wi_Y_message, we_Y_message⟩ (by decide) (by decide) (Nat.le_of_ble_eq_true rfl) (by decide) (by decide)
          refine pv_ist5 d_Y_deliver_36 rfl (by decide) ?_
          refine pv_iload d_Y_deliver_38 rfl ?_
          first | refine pv_ifN_le 83 (by decide) d_Y_deliver_40 (by first | assumption | omega | exact Nat.lt_of_le_of_lt Nat.and_le_right (by decide)) (fun h40 => ?_) (fun h40 => ?_) | refine pv_if_le 83 (by decide) d_Y_deliver_40 (fun h40 => ?_) (fun h40 => ?_)
          · refine pv_iconst d_Y_deliver_83 (nI 0) (by decide) ?_
            refine pv_ist2 d_Y_deliver_84 rfl (by decide) ?_
            refine pv_iload_n d_Y_deliver_85 rfl rfl ?_
            first | refine pv_ifN_eq 106 (by decide) d_Y_deliver_86 (by first | assumption | omega | exact Nat.lt_of_le_of_lt Nat.and_le_right (by decide)) (fun h86 => ?_) (fun h86 => ?_) | refine pv_if_eq 106 (by decide) d_Y_deliver_86 (fun h86 => ?_) (fun h86 => ?_)
            · refine pv_inc3 d_Y_deliver_106 rfl (by decide) ?_
              refine pv_goto 4 (by decide) d_Y_deliver_109 ?_
              refine pv_fg4 (pv_fg5 ?_)
              have hx : ¬ y_dl s n = true := fun z9 => (fun z => by have h9 := z.1; unfold y_dm at h9; omega) (of_decide_eq_true z9 : 0 < y_dm s n ∧ s 7 (49 * n + y_dm s n) ≠ 0 ∧ (s 12 (y_dm s n) = 0 ∨ s 4 n + 1 ≤ s 3 n))
              rw [if_neg hx] at k
              exact ex (t + 1) s (by omega) k
            · omega
          · refine pv_aload_n d_Y_deliver_43 rfl rfl ?_
            refine gY_hold d_Y_deliver_44 ff_Y_32 (by first | assumption | omega) ?_
            refine pv_bipush d_Y_deliver_47 (nI 49) (by decide) ?_
            refine pv_iload_n d_Y_deliver_49 rfl rfl ?_
            first | refine pv_imulN d_Y_deliver_50 ?_ | refine pv_imul d_Y_deliver_50 ?_
            refine pv_iload d_Y_deliver_51 rfl ?_
            first | refine pv_iaddN d_Y_deliver_53 ?_ | refine pv_iadd d_Y_deliver_53 ?_
            refine ly_hold d_Y_deliver_54 (by first | assumption | omega) (by first | assumption | omega) ?_
            first | refine pv_ifN_eq 83 (by decide) d_Y_deliver_55 (by first | assumption | omega | exact Nat.lt_of_le_of_lt Nat.and_le_right (by decide)) (fun h55 => ?_) (fun h55 => ?_) | refine pv_if_eq 83 (by decide) d_Y_deliver_55 (fun h55 => ?_) (fun h55 => ?_)
            · refine pv_iconst d_Y_deliver_83 (nI 0) (by decide) ?_
              refine pv_ist2 d_Y_deliver_84 rfl (by decide) ?_
              refine pv_iload_n d_Y_deliver_85 rfl rfl ?_
              first | refine pv_ifN_eq 106 (by decide) d_Y_deliver_86 (by first | assumption | omega | exact Nat.lt_of_le_of_lt Nat.and_le_right (by decide)) (fun h86 => ?_) (fun h86 => ?_) | refine pv_if_eq 106 (by decide) d_Y_deliver_86 (fun h86 => ?_) (fun h86 => ?_)
              · refine pv_inc3 d_Y_deliver_106 rfl (by decide) ?_
                refine pv_goto 4 (by decide) d_Y_deliver_109 ?_
                refine pv_fg4 (pv_fg5 ?_)
                have hx : ¬ y_dl s n = true := fun z9 => (fun z => z.2.1 h55) (of_decide_eq_true z9 : 0 < y_dm s n ∧ s 7 (49 * n + y_dm s n) ≠ 0 ∧ (s 12 (y_dm s n) = 0 ∨ s 4 n + 1 ≤ s 3 n))
                rw [if_neg hx] at k
                exact ex (t + 1) s (by omega) k
              · omega
            · refine pv_aload_n d_Y_deliver_58 rfl rfl ?_
              refine gY_isSafe d_Y_deliver_59 ff_Y_44 (by first | assumption | omega) ?_
              refine pv_iload d_Y_deliver_62 rfl ?_
              refine ly_isSafe d_Y_deliver_64 (by first | assumption | omega) (by first | assumption | omega) ?_
              first | refine pv_ifN_eq 79 (by decide) d_Y_deliver_65 (by first | assumption | omega | exact Nat.lt_of_le_of_lt Nat.and_le_right (by decide)) (fun h65 => ?_) (fun h65 => ?_) | refine pv_if_eq 79 (by decide) d_Y_deliver_65 (fun h65 => ?_) (fun h65 => ?_)
              · refine pv_iconst d_Y_deliver_79 (nI 1) (by decide) ?_
                refine pv_goto 84 (by decide) d_Y_deliver_80 ?_
                refine pv_ist2 d_Y_deliver_84 rfl (by decide) ?_
                refine pv_iload_n d_Y_deliver_85 rfl rfl ?_
                first | refine pv_ifN_eq 106 (by decide) d_Y_deliver_86 (by first | assumption | omega | exact Nat.lt_of_le_of_lt Nat.and_le_right (by decide)) (fun h86 => ?_) (fun h86 => ?_) | refine pv_if_eq 106 (by decide) d_Y_deliver_86 (fun h86 => ?_) (fun h86 => ?_)
                · omega
                · have hx : y_dl s n = true := decide_eq_true ⟨h40, h55, Or.inl h65⟩
                  rw [if_pos hx] at k ok
                  refine pv_aload_n d_Y_deliver_89 rfl rfl ?_
                  refine pv_iload_n d_Y_deliver_90 rfl rfl ?_
                  refine pv_iconst d_Y_deliver_91 (nI 2) (by decide) ?_
                  refine pv_iload d_Y_deliver_92 rfl ?_
                  first | refine pv_imulN d_Y_deliver_94 ?_ | refine pv_imul d_Y_deliver_94 ?_
                  refine pv_callV2V d_Y_deliver_95 (k_Y_append hξ hn ok.1 ?_) sb_Y_append wm_Y_101 (gy_Y (by first | assumption | omega)) rfl ⟨wi_Y_append, we_Y_append⟩ (by decide) (by decide) (Nat.le_of_ble_eq_true rfl) (by decide) (by decide)
                  refine pv_aload_n d_Y_deliver_98 rfl rfl ?_
                  refine gY_placeOf d_Y_deliver_99 ff_Y_23 (by first | assumption | omega) ?_
                  refine pv_iload_n d_Y_deliver_102 rfl rfl ?_
                  refine pv_iload d_Y_deliver_103 rfl ?_
                  refine sy_placeOf d_Y_deliver_105 (by first | assumption | omega) (by first | assumption | omega) ?_
                  refine pv_inc3 d_Y_deliver_106 rfl (by decide) ?_
                  refine pv_goto 4 (by decide) d_Y_deliver_109 ?_
                  refine pv_fg4 (pv_fg5 ?_)
                  exact ih (t + 1) (y_d1 s n) (by omega) (bY_d1 hs ok.1 ok.2.1) ok.2.2 k
              · refine pv_iload d_Y_deliver_68 rfl ?_
                refine pv_aload_n d_Y_deliver_70 rfl rfl ?_
                refine gY_lineOf d_Y_deliver_71 ff_Y_20 (by first | assumption | omega) ?_
                refine pv_iload_n d_Y_deliver_74 rfl rfl ?_
                refine ly_lineOf d_Y_deliver_75 (by first | assumption | omega) (by first | assumption | omega) ?_
                first | refine pv_icmpN_gt 83 (by decide) d_Y_deliver_76 (by first | assumption | omega | exact Nat.lt_of_le_of_lt Nat.and_le_right (by decide)) (by first | assumption | omega | exact Nat.lt_of_le_of_lt Nat.and_le_right (by decide)) (fun h76 => ?_) (fun h76 => ?_) | refine pv_icmp_gt 83 (by decide) d_Y_deliver_76 (fun h76 => ?_) (fun h76 => ?_)
                · refine pv_iconst d_Y_deliver_83 (nI 0) (by decide) ?_
                  refine pv_ist2 d_Y_deliver_84 rfl (by decide) ?_
                  refine pv_iload_n d_Y_deliver_85 rfl rfl ?_
                  first | refine pv_ifN_eq 106 (by decide) d_Y_deliver_86 (by first | assumption | omega | exact Nat.lt_of_le_of_lt Nat.and_le_right (by decide)) (fun h86 => ?_) (fun h86 => ?_) | refine pv_if_eq 106 (by decide) d_Y_deliver_86 (fun h86 => ?_) (fun h86 => ?_)
                  · refine pv_inc3 d_Y_deliver_106 rfl (by decide) ?_
                    refine pv_goto 4 (by decide) d_Y_deliver_109 ?_
                    refine pv_fg4 (pv_fg5 ?_)
                    have hx : ¬ y_dl s n = true := fun z9 => (fun z => by rcases z.2.2 with q | q; exact h65 q; omega) (of_decide_eq_true z9 : 0 < y_dm s n ∧ s 7 (49 * n + y_dm s n) ≠ 0 ∧ (s 12 (y_dm s n) = 0 ∨ s 4 n + 1 ≤ s 3 n))
                    rw [if_neg hx] at k
                    exact ex (t + 1) s (by omega) k
                  · omega
                · refine pv_iconst d_Y_deliver_79 (nI 1) (by decide) ?_
                  refine pv_goto 84 (by decide) d_Y_deliver_80 ?_
                  refine pv_ist2 d_Y_deliver_84 rfl (by decide) ?_
                  refine pv_iload_n d_Y_deliver_85 rfl rfl ?_
                  first | refine pv_ifN_eq 106 (by decide) d_Y_deliver_86 (by first | assumption | omega | exact Nat.lt_of_le_of_lt Nat.and_le_right (by decide)) (fun h86 => ?_) (fun h86 => ?_) | refine pv_if_eq 106 (by decide) d_Y_deliver_86 (fun h86 => ?_) (fun h86 => ?_)
                  · omega
                  · have hx : y_dl s n = true := decide_eq_true ⟨h40, h55, Or.inr h76⟩
                    rw [if_pos hx] at k ok
                    refine pv_aload_n d_Y_deliver_89 rfl rfl ?_
                    refine pv_iload_n d_Y_deliver_90 rfl rfl ?_
                    refine pv_iconst d_Y_deliver_91 (nI 2) (by decide) ?_
                    refine pv_iload d_Y_deliver_92 rfl ?_
                    first | refine pv_imulN d_Y_deliver_94 ?_ | refine pv_imul d_Y_deliver_94 ?_
                    refine pv_callV2V d_Y_deliver_95 (k_Y_append hξ hn ok.1 ?_) sb_Y_append wm_Y_101 (gy_Y (by first | assumption | omega)) rfl ⟨wi_Y_append, we_Y_append⟩ (by decide) (by decide) (Nat.le_of_ble_eq_true rfl) (by decide) (by decide)
                    refine pv_aload_n d_Y_deliver_98 rfl rfl ?_
                    refine gY_placeOf d_Y_deliver_99 ff_Y_23 (by first | assumption | omega) ?_
                    refine pv_iload_n d_Y_deliver_102 rfl rfl ?_
                    refine pv_iload d_Y_deliver_103 rfl ?_
                    refine sy_placeOf d_Y_deliver_105 (by first | assumption | omega) (by first | assumption | omega) ?_
                    refine pv_inc3 d_Y_deliver_106 rfl (by decide) ?_
                    refine pv_goto 4 (by decide) d_Y_deliver_109 ?_
                    refine pv_fg4 (pv_fg5 ?_)
                    exact ih (t + 1) (y_d1 s n) (by omega) (bY_d1 hs ok.1 ok.2.1) ok.2.2 k
  refine pv_iconst d_Y_deliver_0 (nI 1) (by decide) ?_
  refine pv_ist2 d_Y_deliver_1 rfl (by decide) ?_
  refine pv_iconst d_Y_deliver_2 (nI 0) (by decide) ?_
  refine pv_ist3 d_Y_deliver_3 rfl (by decide) ?_
  exact loop 48 0 τ rfl hb ok k

set_option maxRecDepth 100000 in
set_option maxHeartbeats 4000000 in
theorem k_Y_sendAgain {post : Int32 → List va_E → Prop} (hξ : ξ.length = 40) {n r : Nat} (hn : n < 5) (hr : r < 520) (hb : bY τ) (k : post (nI (y_rq n r τ 48).2) (ξ ++ memY (y_rq n r τ 48).1)) : pv_M l D ty base b 2 0 0 (fun _ => True) y_Y_sendAgain c_Y_sendAgain 7 (some .int) [.ref (40 + 1), .int (nI (n)), .int (nI (r))] (ξ ++ memY τ) (pv_QI D ty base b post) := by
  refine pv_enter [some (.ref (40 + 1)), some (.int (nI (n))), some (.int (nI (r))), none, none, none, none] (by decide) (fun _ => rfl) (fun _ => Nat.le_of_ble_eq_true rfl) ?_
  have loop : ∀ (j i : Nat), i + j = 48 → pv_V l D ty base b c_Y_sendAgain 7 y_Y_sendAgain.cls (some .int) y_Y_sendAgain.name (pv_rm 2 0 0) (fun _ => True) (pv_Qf base 0 0 (pv_QI D ty base b post)) 0 0 5 [some (.ref (40 + 1)), some (.int (nI (n))), some (.int (nI (r))), some (.int (nI ((y_rq n r τ i).2))), some (.int (nI (i + 1))), none, none] [] (ξ ++ memY (y_rq n r τ i).1) := by
    intro j
    induction j with
    | zero =>
      intro i hi
      refine pv_iload d_Y_sendAgain_5 rfl ?_
      refine pv_bipush d_Y_sendAgain_7 (nI 48) (by decide) ?_
      first | refine pv_icmpN_gt 96 (by decide) d_Y_sendAgain_9 (by first | assumption | omega | exact Nat.lt_of_le_of_lt Nat.and_le_right (by decide)) (by first | assumption | omega | exact Nat.lt_of_le_of_lt Nat.and_le_right (by decide)) (fun h9 => ?_) (fun h9 => ?_) | refine pv_icmp_gt 96 (by decide) d_Y_sendAgain_9 (fun h9 => ?_) (fun h9 => ?_)
      · refine pv_iload_n d_Y_sendAgain_96 rfl rfl ?_
        refine pv_iret d_Y_sendAgain_97 ?_
        obtain rfl : i = 48 := by omega
        exact k
      · omega
    | succ j ih =>
      intro i hi
      refine pv_iload d_Y_sendAgain_5 rfl ?_
      refine pv_bipush d_Y_sendAgain_7 (nI 48) (by decide) ?_
      first | refine pv_icmpN_gt 96 (by decide) d_Y_sendAgain_9 (by first | assumption | omega | exact Nat.lt_of_le_of_lt Nat.and_le_right (by decide)) (by first | assumption | omega | exact Nat.lt_of_le_of_lt Nat.and_le_right (by decide)) (fun h9 => ?_) (fun h9 => ?_) | refine pv_icmp_gt 96 (by decide) d_Y_sendAgain_9 (fun h9 => ?_) (fun h9 => ?_)
      · omega
      · have q21 : (y_rq n r τ i).1 21 r < 2 ^ 49 := bY_rq hb i 21 r
        have hbb := b2_lt (y_has (y_rq n r τ i).1 n (i + 1))
        refine pv_aload_n d_Y_sendAgain_12 rfl rfl ?_
        refine gY_wanted d_Y_sendAgain_13 ff_Y_68 (by first | assumption | omega) ?_
        refine pv_iload_n d_Y_sendAgain_16 rfl rfl ?_
        refine ly_wanted d_Y_sendAgain_17 (by first | assumption | omega) (by first | assumption | omega) ?_
        refine pv_iload d_Y_sendAgain_18 rfl ?_
        refine pv_lshrN d_Y_sendAgain_20 (by first | assumption | omega) (by first | assumption | omega) ?_
        refine pv_lconst d_Y_sendAgain_21 (lN 1) (by decide) ?_
        first | refine pv_landN d_Y_sendAgain_22 ?_ | refine pv_landC d_Y_sendAgain_22 ?_
        refine pv_lconst d_Y_sendAgain_23 (lN 1) (by decide) ?_
        refine pv_lcmp_ne 32 d_Y_sendAgain_24 d_Y_sendAgain_25 (by decide) (by first | omega | exact Nat.lt_of_le_of_lt Nat.and_le_left (by first | assumption | omega) | exact Nat.lt_of_le_of_lt Nat.and_le_right (by decide)) (by first | omega | exact Nat.lt_of_le_of_lt Nat.and_le_left (by first | assumption | omega) | exact Nat.lt_of_le_of_lt Nat.and_le_right (by decide)) (fun h25 => ?_) (fun h25 => ?_)
        · refine pv_iconst d_Y_sendAgain_32 (nI 0) (by decide) ?_
          refine pv_ist5 d_Y_sendAgain_33 rfl (by decide) ?_
          refine pv_iload d_Y_sendAgain_35 rfl ?_
          first | refine pv_ifN_eq 90 (by decide) d_Y_sendAgain_37 (by first | assumption | omega | exact Nat.lt_of_le_of_lt Nat.and_le_right (by decide)) (fun h37 => ?_) (fun h37 => ?_) | refine pv_if_eq 90 (by decide) d_Y_sendAgain_37 (fun h37 => ?_) (fun h37 => ?_)
          · refine pv_inc4 d_Y_sendAgain_90 rfl (by decide) ?_
            refine pv_goto 5 (by decide) d_Y_sendAgain_93 ?_
            have hz := ih (i + 1) (by omega)
            rw [y_rq_s] at hz
            refine pv_fg5 (pv_fg6 ?_)
            rw [if_neg (fun z => h25 (tb_div.mpr z.1))] at hz
            exact hz
          · omega
        · refine pv_iconst d_Y_sendAgain_28 (nI 1) (by decide) ?_
          refine pv_goto 33 (by decide) d_Y_sendAgain_29 ?_
          refine pv_ist5 d_Y_sendAgain_33 rfl (by decide) ?_
          refine pv_iload d_Y_sendAgain_35 rfl ?_
          first | refine pv_ifN_eq 90 (by decide) d_Y_sendAgain_37 (by first | assumption | omega | exact Nat.lt_of_le_of_lt Nat.and_le_right (by decide)) (fun h37 => ?_) (fun h37 => ?_) | refine pv_if_eq 90 (by decide) d_Y_sendAgain_37 (fun h37 => ?_) (fun h37 => ?_)
          · omega
          · refine pv_aload_n d_Y_sendAgain_40 rfl rfl ?_
            refine pv_iload_n d_Y_sendAgain_41 rfl rfl ?_
            refine pv_iload d_Y_sendAgain_42 rfl ?_
            refine pv_callV2I d_Y_sendAgain_44 (k_Y_has hξ hn (by omega) (bY_rq hb i) ?_) sb_Y_has wm_Y_87 (gy_Y (by first | assumption | omega)) rfl ⟨wi_Y_has, we_Y_has⟩ (by decide) (by decide) (Nat.le_of_ble_eq_true rfl) (by decide) (by decide)
            first | refine pv_ifN_eq 90 (by decide) d_Y_sendAgain_47 (by first | assumption | omega | exact Nat.lt_of_le_of_lt Nat.and_le_right (by decide)) (fun h47 => ?_) (fun h47 => ?_) | refine pv_if_eq 90 (by decide) d_Y_sendAgain_47 (fun h47 => ?_) (fun h47 => ?_)
            · refine pv_inc4 d_Y_sendAgain_90 rfl (by decide) ?_
              refine pv_goto 5 (by decide) d_Y_sendAgain_93 ?_
              have hz := ih (i + 1) (by omega)
              rw [y_rq_s] at hz
              refine pv_fg5 (pv_fg6 ?_)
              rw [if_neg (fun z => absurd z.2 (by rw [b2_0.mp h47]; decide))] at hz
              exact hz
            · refine pv_aload_n d_Y_sendAgain_50 rfl rfl ?_
              refine gY_wanted d_Y_sendAgain_51 ff_Y_68 (by first | assumption | omega) ?_
              refine pv_iload_n d_Y_sendAgain_54 rfl rfl ?_
              refine pv_aload_n d_Y_sendAgain_55 rfl rfl ?_
              refine gY_wanted d_Y_sendAgain_56 ff_Y_68 (by first | assumption | omega) ?_
              refine pv_iload_n d_Y_sendAgain_59 rfl rfl ?_
              refine ly_wanted d_Y_sendAgain_60 (by first | assumption | omega) (by first | assumption | omega) ?_
              refine pv_lconst d_Y_sendAgain_61 (lN 1) (by decide) ?_
              refine pv_iload d_Y_sendAgain_62 rfl ?_
              refine pv_lshl1 d_Y_sendAgain_64 (by first | assumption | omega) ?_
              refine pv_ldc2 d_Y_sendAgain_65 wk_Y_105 ?_
              refine pv_lxor d_Y_sendAgain_68 ?_
              first | refine pv_landN d_Y_sendAgain_69 ?_ | refine pv_landC d_Y_sendAgain_69 ?_
              refine sy_wanted d_Y_sendAgain_70 (by first | assumption | omega) (by first | assumption | omega) ?_
              refine pv_aload_n d_Y_sendAgain_71 rfl rfl ?_
              refine pv_iload_n d_Y_sendAgain_72 rfl rfl ?_
              refine pv_iload d_Y_sendAgain_73 rfl ?_
              refine pv_callV2I d_Y_sendAgain_75 (k_Y_message hξ (by omega) (by omega) (bY_off (bY_rq hb i)) ?_) sb_Y_message wm_Y_83 (gy_Y (by first | assumption | omega)) rfl ⟨wi_Y_message, we_Y_message⟩ (by decide) (by decide) (Nat.le_of_ble_eq_true rfl) (by decide) (by decide)
              refine pv_ist6 d_Y_sendAgain_78 rfl (by decide) ?_
              refine pv_aload_n d_Y_sendAgain_80 rfl rfl ?_
              refine pv_iload_n d_Y_sendAgain_81 rfl rfl ?_
              refine pv_iload d_Y_sendAgain_82 rfl ?_
              refine pv_callV2V d_Y_sendAgain_84 (k_Y_broadcast hξ hn (y_msg_lt (bY_off (bY_rq hb i))) (bY_off (bY_rq hb i)) ?_) sb_Y_broadcast wm_Y_107 (gy_Y (by first | assumption | omega)) rfl ⟨wi_Y_broadcast, we_Y_broadcast⟩ (by decide) (by decide) (Nat.le_of_ble_eq_true rfl) (by decide) (by decide)
              refine pv_inc3 d_Y_sendAgain_87 rfl (by decide) ?_
              refine pv_inc4 d_Y_sendAgain_90 rfl (by decide) ?_
              refine pv_goto 5 (by decide) d_Y_sendAgain_93 ?_
              have hz := ih (i + 1) (by omega)
              rw [y_rq_s] at hz
              refine pv_fg5 (pv_fg6 ?_)
              rw [if_pos ⟨tb_div.mp h25, b2_n0.mp h47⟩] at hz
              exact hz
  refine pv_iconst d_Y_sendAgain_0 (nI 0) (by decide) ?_
  refine pv_ist3 d_Y_sendAgain_1 rfl (by decide) ?_
  refine pv_iconst d_Y_sendAgain_2 (nI 1) (by decide) ?_
  refine pv_ist4 d_Y_sendAgain_3 rfl (by decide) ?_
  exact loop 48 0 rfl

set_option maxRecDepth 100000 in
set_option maxHeartbeats 4000000 in
theorem k_Y_sendNew {post : Int32 → List va_E → Prop} (hξ : ξ.length = 40) {n r : Nat} (hn : n < 5) (hr : r < 520) (hb : bY τ) (ok : y_nwOK n r τ) (k : post (nI (y_nw n r τ 2).2) (ξ ++ memY (y_nw n r τ 2).1)) : pv_M l D ty base b 2 0 0 (fun _ => True) y_Y_sendNew c_Y_sendNew 6 (some .int) [.ref (40 + 1), .int (nI (n)), .int (nI (r))] (ξ ++ memY τ) (pv_QI D ty base b post) := by
  refine pv_enter [some (.ref (40 + 1)), some (.int (nI (n))), some (.int (nI (r))), none, none, none] (by decide) (fun _ => rfl) (fun _ => Nat.le_of_ble_eq_true rfl) ?_
  have loop : ∀ (j i : Nat), i + j = 2 → pv_V l D ty base b c_Y_sendNew 6 y_Y_sendNew.cls (some .int) y_Y_sendNew.name (pv_rm 2 0 0) (fun _ => True) (pv_Qf base 0 0 (pv_QI D ty base b post)) 0 0 5 [some (.ref (40 + 1)), some (.int (nI (n))), some (.int (nI (r))), some (.int (nI ((y_nw n r τ i).2))), some (.int (nI (i))), none] [] (ξ ++ memY (y_nw n r τ i).1) := by
    intro j
    induction j with
    | zero =>
      intro i hi
      refine pv_iload d_Y_sendNew_5 rfl ?_
      refine pv_iconst d_Y_sendNew_7 (nI 2) (by decide) ?_
      first | refine pv_icmpN_ge 70 (by decide) d_Y_sendNew_8 (by first | assumption | omega | exact Nat.lt_of_le_of_lt Nat.and_le_right (by decide)) (by first | assumption | omega | exact Nat.lt_of_le_of_lt Nat.and_le_right (by decide)) (fun h8 => ?_) (fun h8 => ?_) | refine pv_icmp_ge 70 (by decide) d_Y_sendNew_8 (fun h8 => ?_) (fun h8 => ?_)
      · refine pv_iload_n d_Y_sendNew_70 rfl rfl ?_
        refine pv_iret d_Y_sendNew_71 ?_
        obtain rfl : i = 2 := by omega
        exact k
      · omega
    | succ j ih =>
      intro i hi
      refine pv_iload d_Y_sendNew_5 rfl ?_
      refine pv_iconst d_Y_sendNew_7 (nI 2) (by decide) ?_
      first | refine pv_icmpN_ge 70 (by decide) d_Y_sendNew_8 (by first | assumption | omega | exact Nat.lt_of_le_of_lt Nat.and_le_right (by decide)) (by first | assumption | omega | exact Nat.lt_of_le_of_lt Nat.and_le_right (by decide)) (fun h8 => ?_) (fun h8 => ?_) | refine pv_icmp_ge 70 (by decide) d_Y_sendNew_8 (fun h8 => ?_) (fun h8 => ?_)
      · omega
      · have hbi := bY_nw hb hr ok i (by omega)
        have hfi := y_first_lt (n := n) hbi
        have q18 : (y_nw n r τ i).1 18 r < 49 := hbi 18 r
        refine pv_aload_n d_Y_sendNew_11 rfl rfl ?_
        refine pv_iload_n d_Y_sendNew_12 rfl rfl ?_
        refine pv_callV1I d_Y_sendNew_13 (k_Y_first hξ hn hbi ?_) sb_Y_first wm_Y_110 (gy_Y (by first | assumption | omega)) rfl ⟨wi_Y_first, we_Y_first⟩ (by decide) (by decide) (Nat.le_of_ble_eq_true rfl) (by decide) (by decide)
        refine pv_ist5 d_Y_sendNew_16 rfl (by decide) ?_
        refine pv_iload d_Y_sendNew_18 rfl ?_
        first | refine pv_ifN_le 64 (by decide) d_Y_sendNew_20 (by first | assumption | omega | exact Nat.lt_of_le_of_lt Nat.and_le_right (by decide)) (fun h20 => ?_) (fun h20 => ?_) | refine pv_if_le 64 (by decide) d_Y_sendNew_20 (fun h20 => ?_) (fun h20 => ?_)
        · refine pv_inc4 d_Y_sendNew_64 rfl (by decide) ?_
          refine pv_goto 5 (by decide) d_Y_sendNew_67 ?_
          have hz := ih (i + 1) (by omega)
          rw [y_nw_s] at hz
          refine pv_fg5 ?_
          rw [if_neg (by omega)] at hz
          exact hz
        · refine pv_aload_n d_Y_sendNew_23 rfl rfl ?_
          refine gY_latest d_Y_sendNew_24 ff_Y_59 (by first | assumption | omega) ?_
          refine pv_iload_n d_Y_sendNew_27 rfl rfl ?_
          refine pv_dup2 d_Y_sendNew_28 rfl rfl ?_
          refine ly_latest d_Y_sendNew_29 (by first | assumption | omega) (by first | assumption | omega) ?_
          refine pv_iconst d_Y_sendNew_30 (nI 1) (by decide) ?_
          first | refine pv_iaddN d_Y_sendNew_31 ?_ | refine pv_iadd d_Y_sendNew_31 ?_
          refine sy_latest d_Y_sendNew_32 (by first | assumption | omega) (by first | assumption | omega) ?_
          refine pv_aload_n d_Y_sendNew_33 rfl rfl ?_
          refine gY_number d_Y_sendNew_34 ff_Y_53 (by first | assumption | omega) ?_
          refine pv_iload d_Y_sendNew_37 rfl ?_
          refine pv_aload_n d_Y_sendNew_39 rfl rfl ?_
          refine gY_latest d_Y_sendNew_40 ff_Y_59 (by first | assumption | omega) ?_
          refine pv_iload_n d_Y_sendNew_43 rfl rfl ?_
          refine ly_latest d_Y_sendNew_44 (by first | assumption | omega) (by first | assumption | omega) ?_
          rw [sU_same]
          refine sy_number d_Y_sendNew_45 (by first | assumption | omega) (by first | assumption | omega) ?_
          refine pv_aload_n d_Y_sendNew_46 rfl rfl ?_
          refine gY_ringIn d_Y_sendNew_47 ff_Y_50 (by first | assumption | omega) ?_
          refine pv_iload d_Y_sendNew_50 rfl ?_
          refine pv_iload_n d_Y_sendNew_52 rfl rfl ?_
          refine sy_ringIn d_Y_sendNew_53 (by first | assumption | omega) (by first | assumption | omega) ?_
          refine pv_aload_n d_Y_sendNew_54 rfl rfl ?_
          refine pv_iload_n d_Y_sendNew_55 rfl rfl ?_
          refine pv_iload d_Y_sendNew_56 rfl ?_
          refine pv_callV2V d_Y_sendNew_58 (k_Y_broadcast hξ hn hfi (bY_nw0 hbi hr (ok i (by omega) h20)) ?_) sb_Y_broadcast wm_Y_107 (gy_Y (by first | assumption | omega)) rfl ⟨wi_Y_broadcast, we_Y_broadcast⟩ (by decide) (by decide) (Nat.le_of_ble_eq_true rfl) (by decide) (by decide)
          refine pv_inc3 d_Y_sendNew_61 rfl (by decide) ?_
          refine pv_inc4 d_Y_sendNew_64 rfl (by decide) ?_
          refine pv_goto 5 (by decide) d_Y_sendNew_67 ?_
          have hz := ih (i + 1) (by omega)
          rw [y_nw_s] at hz
          refine pv_fg5 ?_
          rw [if_pos h20] at hz
          exact hz
  refine pv_iconst d_Y_sendNew_0 (nI 0) (by decide) ?_
  refine pv_ist3 d_Y_sendNew_1 rfl (by decide) ?_
  refine pv_iconst d_Y_sendNew_2 (nI 0) (by decide) ?_
  refine pv_ist4 d_Y_sendNew_3 rfl (by decide) ?_
  exact loop 2 0 rfl

set_option maxRecDepth 100000 in
set_option maxHeartbeats 4000000 in
theorem k_Y_stranger {post : Int32 → List va_E → Prop} (hξ : ξ.length = 40) {n : Nat} (hn : n < 5) (hb : bY τ) (k : post (nI (b2 (y_str τ n 5))) (ξ ++ memY τ)) : pv_M l D ty base b 0 0 0 (fun _ => True) y_Y_stranger c_Y_stranger 4 (some .boolean) [.ref (40 + 1), .int (nI (n))] (ξ ++ memY τ) (pv_QI D ty base b post) := by
  refine pv_enter [some (.ref (40 + 1)), some (.int (nI (n))), none, none] (by decide) (fun _ => rfl) (fun _ => Nat.le_of_ble_eq_true rfl) ?_
  have loop : ∀ (j i : Nat), i + j = 5 → pv_V l D ty base b c_Y_stranger 4 y_Y_stranger.cls (some .boolean) y_Y_stranger.name (pv_rm 0 0 0) (fun _ => True) (pv_Qf base 0 0 (pv_QI D ty base b post)) 0 0 4 [some (.ref (40 + 1)), some (.int (nI (n))), some (.int (nI (b2 (y_str τ n i)))), some (.int (nI (i)))] [] (ξ ++ memY τ) := by
    intro j
    induction j with
    | zero =>
      intro i hi
      refine pv_iload_n d_Y_stranger_4 rfl rfl ?_
      refine pv_iconst d_Y_stranger_5 (nI 5) (by decide) ?_
      first | refine pv_icmpN_ge 64 (by decide) d_Y_stranger_6 (by first | assumption | omega | exact Nat.lt_of_le_of_lt Nat.and_le_right (by decide)) (by first | assumption | omega | exact Nat.lt_of_le_of_lt Nat.and_le_right (by decide)) (fun h6 => ?_) (fun h6 => ?_) | refine pv_icmp_ge 64 (by decide) d_Y_stranger_6 (fun h6 => ?_) (fun h6 => ?_)
      · refine pv_iload_n d_Y_stranger_64 rfl rfl ?_
        refine pv_zret d_Y_stranger_65 (nw_b (b2_le _)) ?_
        obtain rfl : i = 5 := by omega
        exact k
      · omega
    | succ j ih =>
      intro i hi
      refine pv_iload_n d_Y_stranger_4 rfl rfl ?_
      refine pv_iconst d_Y_stranger_5 (nI 5) (by decide) ?_
      first | refine pv_icmpN_ge 64 (by decide) d_Y_stranger_6 (by first | assumption | omega | exact Nat.lt_of_le_of_lt Nat.and_le_right (by decide)) (by first | assumption | omega | exact Nat.lt_of_le_of_lt Nat.and_le_right (by decide)) (fun h6 => ?_) (fun h6 => ?_) | refine pv_icmp_ge 64 (by decide) d_Y_stranger_6 (fun h6 => ?_) (fun h6 => ?_)
      · omega
      · have hbb := b2_lt (y_str τ n i)
        have q0 : τ 0 i < 2 := hb 0 i
        have q1 : τ 1 i < 3 := hb 1 i
        have q1n : τ 1 n < 3 := hb 1 n
        have q2 : τ 2 i < 520 := hb 2 i
        have q2n : τ 2 n < 520 := hb 2 n
        refine pv_iload_n d_Y_stranger_9 rfl rfl ?_
        first | refine pv_ifN_ne 52 (by decide) d_Y_stranger_10 (by first | assumption | omega | exact Nat.lt_of_le_of_lt Nat.and_le_right (by decide)) (fun h10 => ?_) (fun h10 => ?_) | refine pv_if_ne 52 (by decide) d_Y_stranger_10 (fun h10 => ?_) (fun h10 => ?_)
        · refine pv_iconst d_Y_stranger_52 (nI 1) (by decide) ?_
          refine pv_goto 57 (by decide) d_Y_stranger_53 ?_
          refine pv_ist2 d_Y_stranger_57 rfl (by decide) ?_
          refine pv_inc3 d_Y_stranger_58 rfl (by decide) ?_
          refine pv_goto 4 (by decide) d_Y_stranger_61 ?_
          have hz := ih (i + 1) (by omega)
          rw [y_str_s] at hz
          rw [b2_n0.mp h10, Bool.true_or] at hz
          exact hz
        · refine pv_aload_n d_Y_stranger_13 rfl rfl ?_
          refine gY_up d_Y_stranger_14 ff_Y_7 (by first | assumption | omega) ?_
          refine pv_iload_n d_Y_stranger_17 rfl rfl ?_
          refine ly_up d_Y_stranger_18 (by first | assumption | omega) (by first | assumption | omega) ?_
          first | refine pv_ifN_eq 56 (by decide) d_Y_stranger_19 (by first | assumption | omega | exact Nat.lt_of_le_of_lt Nat.and_le_right (by decide)) (fun h19 => ?_) (fun h19 => ?_) | refine pv_if_eq 56 (by decide) d_Y_stranger_19 (fun h19 => ?_) (fun h19 => ?_)
          · refine pv_iconst d_Y_stranger_56 (nI 0) (by decide) ?_
            refine pv_ist2 d_Y_stranger_57 rfl (by decide) ?_
            refine pv_inc3 d_Y_stranger_58 rfl (by decide) ?_
            refine pv_goto 4 (by decide) d_Y_stranger_61 ?_
            have hz := ih (i + 1) (by omega)
            rw [y_str_s] at hz
            rw [b2_0.mp h10, Bool.false_or] at hz
            rw [show y_strc τ n i = false from decide_eq_false (fun z => z.1 h19)] at hz
            exact hz
          · refine pv_aload_n d_Y_stranger_22 rfl rfl ?_
            refine gY_area d_Y_stranger_23 ff_Y_13 (by first | assumption | omega) ?_
            refine pv_iload_n d_Y_stranger_26 rfl rfl ?_
            refine ly_area d_Y_stranger_27 (by first | assumption | omega) (by first | assumption | omega) ?_
            refine pv_aload_n d_Y_stranger_28 rfl rfl ?_
            refine gY_area d_Y_stranger_29 ff_Y_13 (by first | assumption | omega) ?_
            refine pv_iload_n d_Y_stranger_32 rfl rfl ?_
            refine ly_area d_Y_stranger_33 (by first | assumption | omega) (by first | assumption | omega) ?_
            first | refine pv_icmpN_ne 56 (by decide) d_Y_stranger_34 (by first | assumption | omega | exact Nat.lt_of_le_of_lt Nat.and_le_right (by decide)) (by first | assumption | omega | exact Nat.lt_of_le_of_lt Nat.and_le_right (by decide)) (fun h34 => ?_) (fun h34 => ?_) | refine pv_icmp_ne 56 (by decide) d_Y_stranger_34 (fun h34 => ?_) (fun h34 => ?_)
            · refine pv_iconst d_Y_stranger_56 (nI 0) (by decide) ?_
              refine pv_ist2 d_Y_stranger_57 rfl (by decide) ?_
              refine pv_inc3 d_Y_stranger_58 rfl (by decide) ?_
              refine pv_goto 4 (by decide) d_Y_stranger_61 ?_
              have hz := ih (i + 1) (by omega)
              rw [y_str_s] at hz
              rw [b2_0.mp h10, Bool.false_or] at hz
              rw [show y_strc τ n i = false from decide_eq_false (fun z => h34 z.2.1)] at hz
              exact hz
            · refine pv_aload_n d_Y_stranger_37 rfl rfl ?_
              refine gY_ringOf d_Y_stranger_38 ff_Y_17 (by first | assumption | omega) ?_
              refine pv_iload_n d_Y_stranger_41 rfl rfl ?_
              refine ly_ringOf d_Y_stranger_42 (by first | assumption | omega) (by first | assumption | omega) ?_
              refine pv_aload_n d_Y_stranger_43 rfl rfl ?_
              refine gY_ringOf d_Y_stranger_44 ff_Y_17 (by first | assumption | omega) ?_
              refine pv_iload_n d_Y_stranger_47 rfl rfl ?_
              refine ly_ringOf d_Y_stranger_48 (by first | assumption | omega) (by first | assumption | omega) ?_
              first | refine pv_icmpN_eq 56 (by decide) d_Y_stranger_49 (by first | assumption | omega | exact Nat.lt_of_le_of_lt Nat.and_le_right (by decide)) (by first | assumption | omega | exact Nat.lt_of_le_of_lt Nat.and_le_right (by decide)) (fun h49 => ?_) (fun h49 => ?_) | refine pv_icmp_eq 56 (by decide) d_Y_stranger_49 (fun h49 => ?_) (fun h49 => ?_)
              · refine pv_iconst d_Y_stranger_56 (nI 0) (by decide) ?_
                refine pv_ist2 d_Y_stranger_57 rfl (by decide) ?_
                refine pv_inc3 d_Y_stranger_58 rfl (by decide) ?_
                refine pv_goto 4 (by decide) d_Y_stranger_61 ?_
                have hz := ih (i + 1) (by omega)
                rw [y_str_s] at hz
                rw [b2_0.mp h10, Bool.false_or] at hz
                rw [show y_strc τ n i = false from decide_eq_false (fun z => z.2.2 h49)] at hz
                exact hz
              · refine pv_iconst d_Y_stranger_52 (nI 1) (by decide) ?_
                refine pv_goto 57 (by decide) d_Y_stranger_53 ?_
                refine pv_ist2 d_Y_stranger_57 rfl (by decide) ?_
                refine pv_inc3 d_Y_stranger_58 rfl (by decide) ?_
                refine pv_goto 4 (by decide) d_Y_stranger_61 ?_
                have hz := ih (i + 1) (by omega)
                rw [y_str_s] at hz
                rw [b2_0.mp h10, Bool.false_or] at hz
                rw [show y_strc τ n i = true from decide_eq_true ⟨h19, h34, h49⟩] at hz
                exact hz
  refine pv_iconst d_Y_stranger_0 (nI 0) (by decide) ?_
  refine pv_ist2 d_Y_stranger_1 rfl (by decide) ?_
  refine pv_iconst d_Y_stranger_2 (nI 0) (by decide) ?_
  refine pv_ist3 d_Y_stranger_3 rfl (by decide) ?_
  exact loop 5 0 rfl

set_option maxRecDepth 100000 in
set_option maxHeartbeats 4000000 in
theorem k_Y_passOn {post : List va_E → Prop} (hξ : ξ.length = 40) {n r : Nat} (hn : n < 5) (hr : r < 520) (hb : bY τ) (k : post (ξ ++ memY (y_pass τ n r))) : pv_M l D ty base b 1 0 0 (fun _ => True) y_Y_passOn c_Y_passOn 6 none [.ref (40 + 1), .int (nI (n)), .int (nI (r))] (ξ ++ memY τ) (pv_QV D ty base b post) := by
  refine pv_enter [some (.ref (40 + 1)), some (.int (nI (n))), some (.int (nI (r))), none, none, none] (by decide) (fun _ => rfl) (fun _ => Nat.le_of_ble_eq_true rfl) ?_
  have q19 : τ 19 r < 32 := hb 19 r
  have loop : ∀ (j v : Nat), j < 5 → v < 5 → (y_nx (τ 19 r) n j v = y_next (τ 19 r) n) → pv_V l D ty base b c_Y_passOn 6 y_Y_passOn.cls none y_Y_passOn.name (pv_rm 1 0 0) (fun _ => True) (pv_Qf base 0 0 (pv_QV D ty base b post)) 0 0 5 [some (.ref (40 + 1)), some (.int (nI (n))), some (.int (nI (r))), some (.int (nI (v))), some (.int (nI (j))), none] [] (ξ ++ memY τ) := by
    intro j
    induction j with
    | zero =>
      intro v hj hv hx
      have hx : v = y_next (τ 19 r) n := hx
      refine pv_iload d_Y_passOn_5 rfl ?_
      refine pv_iconst d_Y_passOn_7 (nI 1) (by decide) ?_
      first | refine pv_icmpN_lt 47 (by decide) d_Y_passOn_8 (by first | assumption | omega | exact Nat.lt_of_le_of_lt Nat.and_le_right (by decide)) (by first | assumption | omega | exact Nat.lt_of_le_of_lt Nat.and_le_right (by decide)) (fun h8 => ?_) (fun h8 => ?_) | refine pv_icmp_lt 47 (by decide) d_Y_passOn_8 (fun h8 => ?_) (fun h8 => ?_)
      · refine pv_aload_n d_Y_passOn_47 rfl rfl ?_
        refine gY_at d_Y_passOn_48 ff_Y_56 (by first | assumption | omega) ?_
        refine pv_iload_n d_Y_passOn_51 rfl rfl ?_
        refine pv_iload_n d_Y_passOn_52 rfl rfl ?_
        refine pv_iload_n d_Y_passOn_53 rfl rfl ?_
        first | refine pv_icmpN_eq 66 (by decide) d_Y_passOn_54 (by first | assumption | omega | exact Nat.lt_of_le_of_lt Nat.and_le_right (by decide)) (by first | assumption | omega | exact Nat.lt_of_le_of_lt Nat.and_le_right (by decide)) (fun h54 => ?_) (fun h54 => ?_) | refine pv_icmp_eq 66 (by decide) d_Y_passOn_54 (fun h54 => ?_) (fun h54 => ?_)
        · refine pv_iload_n d_Y_passOn_66 rfl rfl ?_
          refine pv_goto 71 (by decide) d_Y_passOn_67 ?_
          refine sy_atI d_Y_passOn_71 (by first | assumption | omega) (by first | assumption | omega) ?_
          refine pv_vret d_Y_passOn_72 ?_
          rw [y_pass, ← hx, if_pos (Or.inl h54)] at k
          exact k
        · refine pv_aload_n d_Y_passOn_57 rfl rfl ?_
          refine pv_iload_n d_Y_passOn_58 rfl rfl ?_
          refine pv_iload_n d_Y_passOn_59 rfl rfl ?_
          refine pv_callV2I d_Y_passOn_60 (k_Y_hears hξ hv hn hb ?_) sb_Y_hears wm_Y_98 (gy_Y (by first | assumption | omega)) rfl ⟨wi_Y_hears, we_Y_hears⟩ (by decide) (by decide) (Nat.le_of_ble_eq_true rfl) (by decide) (by decide)
          have hbb := b2_lt (y_hear τ v n)
          first | refine pv_ifN_eq 70 (by decide) d_Y_passOn_63 (by first | assumption | omega | exact Nat.lt_of_le_of_lt Nat.and_le_right (by decide)) (fun h63 => ?_) (fun h63 => ?_) | refine pv_if_eq 70 (by decide) d_Y_passOn_63 (fun h63 => ?_) (fun h63 => ?_)
          · refine pv_iconst d_Y_passOn_70 (-1) (by decide) ?_
            refine sy_atM d_Y_passOn_71 (by first | assumption | omega) (by first | assumption | omega) ?_
            refine pv_vret d_Y_passOn_72 ?_
            rw [y_pass, ← hx, if_neg (fun z => z.elim h54 (fun q => absurd q (by rw [b2_0.mp h63]; decide)))] at k
            exact k
          · refine pv_iload_n d_Y_passOn_66 rfl rfl ?_
            refine pv_goto 71 (by decide) d_Y_passOn_67 ?_
            refine sy_atI d_Y_passOn_71 (by first | assumption | omega) (by first | assumption | omega) ?_
            refine pv_vret d_Y_passOn_72 ?_
            rw [y_pass, ← hx, if_pos (Or.inr (b2_n0.mp h63))] at k
            exact k
      · omega
    | succ j ih =>
      intro v hj hv hx
      unfold y_nx at hx
      refine pv_iload d_Y_passOn_5 rfl ?_
      refine pv_iconst d_Y_passOn_7 (nI 1) (by decide) ?_
      first | refine pv_icmpN_lt 47 (by decide) d_Y_passOn_8 (by first | assumption | omega | exact Nat.lt_of_le_of_lt Nat.and_le_right (by decide)) (by first | assumption | omega | exact Nat.lt_of_le_of_lt Nat.and_le_right (by decide)) (fun h8 => ?_) (fun h8 => ?_) | refine pv_icmp_lt 47 (by decide) d_Y_passOn_8 (fun h8 => ?_) (fun h8 => ?_)
      · omega
      · refine pv_iload_n d_Y_passOn_11 rfl rfl ?_
        refine pv_iload d_Y_passOn_12 rfl ?_
        first | refine pv_iaddN d_Y_passOn_14 ?_ | refine pv_iadd d_Y_passOn_14 ?_
        refine pv_iconst d_Y_passOn_15 (nI 5) (by decide) ?_
        refine pv_iremN d_Y_passOn_16 (by omega) (by omega) (by omega) ?_
        refine pv_ist5 d_Y_passOn_17 rfl (by decide) ?_
        refine pv_aload_n d_Y_passOn_19 rfl rfl ?_
        refine gY_memberBits d_Y_passOn_20 ff_Y_62 (by first | assumption | omega) ?_
        refine pv_iload_n d_Y_passOn_23 rfl rfl ?_
        refine ly_memberBits d_Y_passOn_24 (by first | assumption | omega) (by first | assumption | omega) ?_
        refine pv_iload d_Y_passOn_25 rfl ?_
        refine pv_ishrN d_Y_passOn_27 (by first | assumption | omega) (by first | assumption | omega) ?_
        refine pv_iconst d_Y_passOn_28 (nI 1) (by decide) ?_
        first | refine pv_iandN d_Y_passOn_29 ?_ | refine pv_iand d_Y_passOn_29 ?_
        refine pv_iconst d_Y_passOn_30 (nI 1) (by decide) ?_
        first | refine pv_icmpN_ne 39 (by decide) d_Y_passOn_31 (by first | assumption | omega | exact Nat.lt_of_le_of_lt Nat.and_le_right (by decide)) (by first | assumption | omega | exact Nat.lt_of_le_of_lt Nat.and_le_right (by decide)) (fun h31 => ?_) (fun h31 => ?_) | refine pv_icmp_ne 39 (by decide) d_Y_passOn_31 (fun h31 => ?_) (fun h31 => ?_)
        · refine pv_iload_n d_Y_passOn_39 rfl rfl ?_
          refine pv_ist3 d_Y_passOn_40 rfl (by decide) ?_
          refine pv_iinc d_Y_passOn_41 (nI j) rfl (pk_m1 j) rfl (by simp) (by decide) ?_
          refine pv_goto 5 (by decide) d_Y_passOn_44 ?_
          refine pv_fg5 ?_
          rw [if_neg (fun z => h31 (tb_div.mpr z))] at hx
          exact ih v (by omega) hv hx
        · refine pv_iload d_Y_passOn_34 rfl ?_
          refine pv_goto 40 (by decide) d_Y_passOn_36 ?_
          refine pv_ist3 d_Y_passOn_40 rfl (by decide) ?_
          refine pv_iinc d_Y_passOn_41 (nI j) rfl (pk_m1 j) rfl (by simp) (by decide) ?_
          refine pv_goto 5 (by decide) d_Y_passOn_44 ?_
          refine pv_fg5 ?_
          rw [if_pos (tb_div.mp h31)] at hx
          exact ih _ (by omega) (by omega) hx
  refine pv_iload_n d_Y_passOn_0 rfl rfl ?_
  refine pv_ist3 d_Y_passOn_1 rfl (by decide) ?_
  refine pv_iconst d_Y_passOn_2 (nI 4) (by decide) ?_
  refine pv_ist4 d_Y_passOn_3 rfl (by decide) ?_
  exact loop 4 n (by decide) hn rfl

set_option maxRecDepth 100000 in
set_option maxHeartbeats 4000000 in
theorem k_Y_newRing {post : List va_E → Prop} (hξ : ξ.length = 40) {bits h : Nat} (h16 : τ 16 0 + 1 < 520) (k : post (ξ ++ memY (y_newR τ bits h))) : pv_M l D ty base b 0 0 0 (fun _ => True) y_Y_newRing c_Y_newRing 3 none [.ref (40 + 1), .int (nI (bits)), .int (nI (h))] (ξ ++ memY τ) (pv_QV D ty base b post) := by
  refine pv_enter [some (.ref (40 + 1)), some (.int (nI (bits))), some (.int (nI (h)))] (by decide) (fun _ => rfl) (fun _ => Nat.le_of_ble_eq_true rfl) ?_
  refine pv_aload_n d_Y_newRing_0 rfl rfl ?_
  refine pv_dup d_Y_newRing_1 rfl ?_
  refine gY_rings d_Y_newRing_2 ff_Y_72 (by first | assumption | omega) ?_
  refine pv_iconst d_Y_newRing_5 (nI 1) (by decide) ?_
  first | refine pv_iaddN d_Y_newRing_6 ?_ | refine pv_iadd d_Y_newRing_6 ?_
  refine pY_rings d_Y_newRing_7 ff_Y_72 (by first | assumption | omega) ?_
  refine pv_aload_n d_Y_newRing_10 rfl rfl ?_
  refine gY_memberBits d_Y_newRing_11 ff_Y_62 (by first | assumption | omega) ?_
  refine pv_aload_n d_Y_newRing_14 rfl rfl ?_
  refine gY_rings d_Y_newRing_15 ff_Y_72 (by first | assumption | omega) ?_
  rw [sU_same]
  refine pv_iload_n d_Y_newRing_18 rfl rfl ?_
  refine sy_memberBits d_Y_newRing_19 (by first | assumption | omega) (by first | assumption | omega) ?_
  refine pv_aload_n d_Y_newRing_20 rfl rfl ?_
  refine gY_at d_Y_newRing_21 ff_Y_56 (by first | assumption | omega) ?_
  refine pv_aload_n d_Y_newRing_24 rfl rfl ?_
  refine gY_rings d_Y_newRing_25 ff_Y_72 (by first | assumption | omega) ?_
  rw [sU_nef (show (16 : Nat) ≠ 19 by decide), sU_same]
  refine pv_iload_n d_Y_newRing_28 rfl rfl ?_
  refine sy_atI d_Y_newRing_29 (by first | assumption | omega) (by first | assumption | omega) ?_
  refine pv_vret d_Y_newRing_30 ?_
  exact k

set_option maxRecDepth 100000 in
set_option maxHeartbeats 4000000 in
theorem k_Y_clean {post : List va_E → Prop} (hξ : ξ.length = 40) {n : Nat} (hn : n < 5) (k : post (ξ ++ memY (y_clean τ n))) : pv_M l D ty base b 0 0 0 (fun _ => True) y_Y_clean c_Y_clean 3 none [.ref (40 + 1), .int (nI (n))] (ξ ++ memY τ) (pv_QV D ty base b post) := by
  refine pv_enter [some (.ref (40 + 1)), some (.int (nI (n))), none] (by decide) (fun _ => rfl) (fun _ => Nat.le_of_ble_eq_true rfl) ?_
  have loop : ∀ (j i : Nat), i + j = 48 → pv_V l D ty base b c_Y_clean 3 y_Y_clean.cls none y_Y_clean.name (pv_rm 0 0 0) (fun _ => True) (pv_Qf base 0 0 (pv_QV D ty base b post)) 0 0 2 [some (.ref (40 + 1)), some (.int (nI (n))), some (.int (nI (i + 1)))] [] (ξ ++ memY (y_cl n τ i)) := by
    intro j
    induction j with
    | zero =>
      intro i hi
      refine pv_iload_n d_Y_clean_2 rfl rfl ?_
      refine pv_bipush d_Y_clean_3 (nI 48) (by decide) ?_
      first | refine pv_icmpN_gt 26 (by decide) d_Y_clean_5 (by first | assumption | omega | exact Nat.lt_of_le_of_lt Nat.and_le_right (by decide)) (by first | assumption | omega | exact Nat.lt_of_le_of_lt Nat.and_le_right (by decide)) (fun h5 => ?_) (fun h5 => ?_) | refine pv_icmp_gt 26 (by decide) d_Y_clean_5 (fun h5 => ?_) (fun h5 => ?_)
      · refine pv_aload_n d_Y_clean_26 rfl rfl ?_
        refine gY_lineOf d_Y_clean_27 ff_Y_20 (by first | assumption | omega) ?_
        refine pv_iload_n d_Y_clean_30 rfl rfl ?_
        refine pv_iconst d_Y_clean_31 (nI 0) (by decide) ?_
        refine sy_lineOf d_Y_clean_32 (by first | assumption | omega) (by first | assumption | omega) ?_
        refine pv_aload_n d_Y_clean_33 rfl rfl ?_
        refine gY_placeOf d_Y_clean_34 ff_Y_23 (by first | assumption | omega) ?_
        refine pv_iload_n d_Y_clean_37 rfl rfl ?_
        refine pv_iconst d_Y_clean_38 (nI 0) (by decide) ?_
        refine sy_placeOf d_Y_clean_39 (by first | assumption | omega) (by first | assumption | omega) ?_
        refine pv_aload_n d_Y_clean_40 rfl rfl ?_
        refine gY_timer d_Y_clean_41 ff_Y_29 (by first | assumption | omega) ?_
        refine pv_iload_n d_Y_clean_44 rfl rfl ?_
        refine pv_iconst d_Y_clean_45 (nI 0) (by decide) ?_
        refine sy_timer d_Y_clean_46 (by first | assumption | omega) (by first | assumption | omega) ?_
        refine pv_vret d_Y_clean_47 ?_
        obtain rfl : i = 48 := by omega
        exact k
      · omega
    | succ j ih =>
      intro i hi
      refine pv_iload_n d_Y_clean_2 rfl rfl ?_
      refine pv_bipush d_Y_clean_3 (nI 48) (by decide) ?_
      first | refine pv_icmpN_gt 26 (by decide) d_Y_clean_5 (by first | assumption | omega | exact Nat.lt_of_le_of_lt Nat.and_le_right (by decide)) (by first | assumption | omega | exact Nat.lt_of_le_of_lt Nat.and_le_right (by decide)) (fun h5 => ?_) (fun h5 => ?_) | refine pv_icmp_gt 26 (by decide) d_Y_clean_5 (fun h5 => ?_) (fun h5 => ?_)
      · omega
      · refine pv_aload_n d_Y_clean_8 rfl rfl ?_
        refine gY_hold d_Y_clean_9 ff_Y_32 (by first | assumption | omega) ?_
        refine pv_bipush d_Y_clean_12 (nI 49) (by decide) ?_
        refine pv_iload_n d_Y_clean_14 rfl rfl ?_
        first | refine pv_imulN d_Y_clean_15 ?_ | refine pv_imul d_Y_clean_15 ?_
        refine pv_iload_n d_Y_clean_16 rfl rfl ?_
        first | refine pv_iaddN d_Y_clean_17 ?_ | refine pv_iadd d_Y_clean_17 ?_
        refine pv_iconst d_Y_clean_18 (nI 0) (by decide) ?_
        refine sy_hold d_Y_clean_19 (by first | assumption | omega) (by first | assumption | omega) (nar_b (by omega)) ?_
        refine pv_inc2 d_Y_clean_20 rfl (by decide) ?_
        refine pv_goto 2 (by decide) d_Y_clean_23 ?_
        exact ih (i + 1) (by omega)
  refine pv_iconst d_Y_clean_0 (nI 1) (by decide) ?_
  refine pv_ist2 d_Y_clean_1 rfl (by decide) ?_
  exact loop 48 0 rfl

set_option maxRecDepth 100000 in
set_option maxHeartbeats 4000000 in
theorem k_Y_enter {post : List va_E → Prop} (hξ : ξ.length = 40) {n : Nat} (hn : n < 5) (hb : bY τ) (k : post (ξ ++ memY (y_ent1 τ n))) : pv_M l D ty base b 1 0 0 (fun _ => True) y_Y_enter c_Y_enter 3 none [.ref (40 + 1), .int (nI (n))] (ξ ++ memY τ) (pv_QV D ty base b post) := by
  refine pv_enter [some (.ref (40 + 1)), some (.int (nI (n))), none] (by decide) (fun _ => rfl) (fun _ => Nat.le_of_ble_eq_true rfl) ?_
  have q2 : τ 2 n < 520 := hb 2 n
  refine pv_aload_n d_Y_enter_0 rfl rfl ?_
  refine gY_ringOf d_Y_enter_1 ff_Y_17 (by first | assumption | omega) ?_
  refine pv_iload_n d_Y_enter_4 rfl rfl ?_
  refine ly_ringOf d_Y_enter_5 (by first | assumption | omega) (by first | assumption | omega) ?_
  refine pv_ist2 d_Y_enter_6 rfl (by decide) ?_
  refine pv_aload_n d_Y_enter_7 rfl rfl ?_
  refine gY_at d_Y_enter_8 ff_Y_56 (by first | assumption | omega) ?_
  refine pv_iload_n d_Y_enter_11 rfl rfl ?_
  refine pv_aload_n d_Y_enter_12 rfl rfl ?_
  refine gY_at d_Y_enter_13 ff_Y_56 (by first | assumption | omega) ?_
  refine pv_iload_n d_Y_enter_16 rfl rfl ?_
  refine ly_at d_Y_enter_17 (by first | assumption | omega) (by first | assumption | omega) ?_
  refine pv_iload_n d_Y_enter_18 rfl rfl ?_
  first | refine pv_icmpN_ne 26 (by decide) d_Y_enter_19 (by first | assumption | omega | exact Nat.lt_of_le_of_lt Nat.and_le_right (by decide)) (by first | assumption | omega | exact Nat.lt_of_le_of_lt Nat.and_le_right (by decide)) (fun h19 => ?_) (fun h19 => ?_) | refine pv_icmp_ne 26 (by decide) d_Y_enter_19 (fun h19 => ?_) (fun h19 => ?_)
  · refine pv_aload_n d_Y_enter_26 rfl rfl ?_
    refine gY_at d_Y_enter_27 ff_Y_56 (by first | assumption | omega) ?_
    refine pv_iload_n d_Y_enter_30 rfl rfl ?_
    refine ly_at d_Y_enter_31 (by first | assumption | omega) (by first | assumption | omega) ?_
    refine sy_at d_Y_enter_32 (by first | assumption | omega) (by first | assumption | omega) ?_
    refine pv_aload_n d_Y_enter_33 rfl rfl ?_
    refine gY_ringOf d_Y_enter_34 ff_Y_17 (by first | assumption | omega) ?_
    refine pv_iload_n d_Y_enter_37 rfl rfl ?_
    refine pv_aload_n d_Y_enter_38 rfl rfl ?_
    refine gY_rings d_Y_enter_39 ff_Y_72 (by first | assumption | omega) ?_
    rw [sU_nef (show (16 : Nat) ≠ 17 by decide)]
    refine sy_ringOf d_Y_enter_42 (by first | assumption | omega) (by first | assumption | omega) ?_
    refine pv_aload_n d_Y_enter_43 rfl rfl ?_
    refine pv_iload_n d_Y_enter_44 rfl rfl ?_
    refine pv_callV1V d_Y_enter_45 (k_Y_clean hξ hn ?_) sb_Y_clean wm_Y_135 (gy_Y (by first | assumption | omega)) rfl ⟨wi_Y_clean, we_Y_clean⟩ (by decide) (by decide) (Nat.le_of_ble_eq_true rfl) (by decide) (by decide)
    refine pv_vret d_Y_enter_48 ?_
    rw [y_ent1, y_untok, if_neg (mt (tk_eq (Nat.lt_of_lt_of_le (hb 17 (τ 2 n)) (by decide)) (by omega)).mpr h19)] at k
    exact k
  · refine pv_iconst d_Y_enter_22 (-1) (by decide) ?_
    refine pv_goto 32 (by decide) d_Y_enter_23 ?_
    refine sy_atM d_Y_enter_32 (by first | assumption | omega) (by first | assumption | omega) ?_
    refine pv_aload_n d_Y_enter_33 rfl rfl ?_
    refine gY_ringOf d_Y_enter_34 ff_Y_17 (by first | assumption | omega) ?_
    refine pv_iload_n d_Y_enter_37 rfl rfl ?_
    refine pv_aload_n d_Y_enter_38 rfl rfl ?_
    refine gY_rings d_Y_enter_39 ff_Y_72 (by first | assumption | omega) ?_
    rw [sU_nef (show (16 : Nat) ≠ 17 by decide)]
    refine sy_ringOf d_Y_enter_42 (by first | assumption | omega) (by first | assumption | omega) ?_
    refine pv_aload_n d_Y_enter_43 rfl rfl ?_
    refine pv_iload_n d_Y_enter_44 rfl rfl ?_
    refine pv_callV1V d_Y_enter_45 (k_Y_clean hξ hn ?_) sb_Y_clean wm_Y_135 (gy_Y (by first | assumption | omega)) rfl ⟨wi_Y_clean, we_Y_clean⟩ (by decide) (by decide) (Nat.le_of_ble_eq_true rfl) (by decide) (by decide)
    refine pv_vret d_Y_enter_48 ?_
    rw [y_ent1, y_untok, if_pos ((tk_eq (Nat.lt_of_lt_of_le (hb 17 (τ 2 n)) (by decide)) (by omega)).mp h19)] at k
    exact k

set_option maxRecDepth 100000 in
set_option maxHeartbeats 4000000 in
theorem k_Y_together {post : Int32 → List va_E → Prop} (hξ : ξ.length = 40) {a r : Nat} (ha : a < 2 ^ 31) (hr : r < 2 ^ 31) (hb : bY τ) (k : post (nI (y_tog τ a r 5)) (ξ ++ memY τ)) : pv_M l D ty base b 0 0 0 (fun _ => True) y_Y_together c_Y_together 5 (some .int) [.ref (40 + 1), .int (nI (a)), .int (nI (r))] (ξ ++ memY τ) (pv_QI D ty base b post) := by
  refine pv_enter [some (.ref (40 + 1)), some (.int (nI (a))), some (.int (nI (r))), none, none] (by decide) (fun _ => rfl) (fun _ => Nat.le_of_ble_eq_true rfl) ?_
  have loop : ∀ (j i : Nat), i + j = 5 → pv_V l D ty base b c_Y_together 5 y_Y_together.cls (some .int) y_Y_together.name (pv_rm 0 0 0) (fun _ => True) (pv_Qf base 0 0 (pv_QI D ty base b post)) 0 0 5 [some (.ref (40 + 1)), some (.int (nI (a))), some (.int (nI (r))), some (.int (nI (y_tog τ a r i))), some (.int (nI (i)))] [] (ξ ++ memY τ) := by
    intro j
    induction j with
    | zero =>
      intro i hi
      refine pv_iload d_Y_together_5 rfl ?_
      refine pv_iconst d_Y_together_7 (nI 5) (by decide) ?_
      first | refine pv_icmpN_ge 60 (by decide) d_Y_together_8 (by first | assumption | omega | exact Nat.lt_of_le_of_lt Nat.and_le_right (by decide)) (by first | assumption | omega | exact Nat.lt_of_le_of_lt Nat.and_le_right (by decide)) (fun h8 => ?_) (fun h8 => ?_) | refine pv_icmp_ge 60 (by decide) d_Y_together_8 (fun h8 => ?_) (fun h8 => ?_)
      · refine pv_iload_n d_Y_together_60 rfl rfl ?_
        refine pv_iret d_Y_together_61 ?_
        obtain rfl : i = 5 := by omega
        exact k
      · omega
    | succ j ih =>
      intro i hi
      refine pv_iload d_Y_together_5 rfl ?_
      refine pv_iconst d_Y_together_7 (nI 5) (by decide) ?_
      first | refine pv_icmpN_ge 60 (by decide) d_Y_together_8 (by first | assumption | omega | exact Nat.lt_of_le_of_lt Nat.and_le_right (by decide)) (by first | assumption | omega | exact Nat.lt_of_le_of_lt Nat.and_le_right (by decide)) (fun h8 => ?_) (fun h8 => ?_) | refine pv_icmp_ge 60 (by decide) d_Y_together_8 (fun h8 => ?_) (fun h8 => ?_)
      · omega
      · have q0 : τ 0 i < 2 := hb 0 i
        have q1 : τ 1 i < 3 := hb 1 i
        have q2 : τ 2 i < 520 := hb 2 i
        refine pv_aload_n d_Y_together_11 rfl rfl ?_
        refine gY_up d_Y_together_12 ff_Y_7 (by first | assumption | omega) ?_
        refine pv_iload d_Y_together_15 rfl ?_
        refine ly_up d_Y_together_17 (by first | assumption | omega) (by first | assumption | omega) ?_
        first | refine pv_ifN_eq 52 (by decide) d_Y_together_18 (by first | assumption | omega | exact Nat.lt_of_le_of_lt Nat.and_le_right (by decide)) (fun h18 => ?_) (fun h18 => ?_) | refine pv_if_eq 52 (by decide) d_Y_together_18 (fun h18 => ?_) (fun h18 => ?_)
        · refine pv_iload_n d_Y_together_52 rfl rfl ?_
          refine pv_ist3 d_Y_together_53 rfl (by decide) ?_
          refine pv_inc4 d_Y_together_54 rfl (by decide) ?_
          refine pv_goto 5 (by decide) d_Y_together_57 ?_
          have hz := ih (i + 1) (by omega)
          rw [y_tog_s] at hz
          rw [if_neg (fun z => z.1 h18)] at hz
          exact hz
        · refine pv_aload_n d_Y_together_21 rfl rfl ?_
          refine gY_area d_Y_together_22 ff_Y_13 (by first | assumption | omega) ?_
          refine pv_iload d_Y_together_25 rfl ?_
          refine ly_area d_Y_together_27 (by first | assumption | omega) (by first | assumption | omega) ?_
          refine pv_iload_n d_Y_together_28 rfl rfl ?_
          first | refine pv_icmpN_ne 52 (by decide) d_Y_together_29 (by first | assumption | omega | exact Nat.lt_of_le_of_lt Nat.and_le_right (by decide)) (by first | assumption | omega | exact Nat.lt_of_le_of_lt Nat.and_le_right (by decide)) (fun h29 => ?_) (fun h29 => ?_) | refine pv_icmp_ne 52 (by decide) d_Y_together_29 (fun h29 => ?_) (fun h29 => ?_)
          · refine pv_iload_n d_Y_together_52 rfl rfl ?_
            refine pv_ist3 d_Y_together_53 rfl (by decide) ?_
            refine pv_inc4 d_Y_together_54 rfl (by decide) ?_
            refine pv_goto 5 (by decide) d_Y_together_57 ?_
            have hz := ih (i + 1) (by omega)
            rw [y_tog_s] at hz
            rw [if_neg (fun z => h29 z.2.1)] at hz
            exact hz
          · refine pv_aload_n d_Y_together_32 rfl rfl ?_
            refine gY_ringOf d_Y_together_33 ff_Y_17 (by first | assumption | omega) ?_
            refine pv_iload d_Y_together_36 rfl ?_
            refine ly_ringOf d_Y_together_38 (by first | assumption | omega) (by first | assumption | omega) ?_
            refine pv_iload_n d_Y_together_39 rfl rfl ?_
            first | refine pv_icmpN_ne 52 (by decide) d_Y_together_40 (by first | assumption | omega | exact Nat.lt_of_le_of_lt Nat.and_le_right (by decide)) (by first | assumption | omega | exact Nat.lt_of_le_of_lt Nat.and_le_right (by decide)) (fun h40 => ?_) (fun h40 => ?_) | refine pv_icmp_ne 52 (by decide) d_Y_together_40 (fun h40 => ?_) (fun h40 => ?_)
            · refine pv_iload_n d_Y_together_52 rfl rfl ?_
              refine pv_ist3 d_Y_together_53 rfl (by decide) ?_
              refine pv_inc4 d_Y_together_54 rfl (by decide) ?_
              refine pv_goto 5 (by decide) d_Y_together_57 ?_
              have hz := ih (i + 1) (by omega)
              rw [y_tog_s] at hz
              rw [if_neg (fun z => h40 z.2.2)] at hz
              exact hz
            · refine pv_iload_n d_Y_together_43 rfl rfl ?_
              refine pv_iconst d_Y_together_44 (nI 1) (by decide) ?_
              refine pv_iload d_Y_together_45 rfl ?_
              first | refine pv_ishl1 d_Y_together_47 (by omega) ?_ | refine pv_ishl d_Y_together_47 ?_
              first | refine pv_iorN d_Y_together_48 ?_ | refine pv_ior d_Y_together_48 ?_
              refine pv_goto 53 (by decide) d_Y_together_49 ?_
              refine pv_ist3 d_Y_together_53 rfl (by decide) ?_
              refine pv_inc4 d_Y_together_54 rfl (by decide) ?_
              refine pv_goto 5 (by decide) d_Y_together_57 ?_
              have hz := ih (i + 1) (by omega)
              rw [y_tog_s] at hz
              rw [if_pos ⟨h18, h29, h40⟩] at hz
              exact hz
  refine pv_iconst d_Y_together_0 (nI 0) (by decide) ?_
  refine pv_ist3 d_Y_together_1 rfl (by decide) ?_
  refine pv_iconst d_Y_together_2 (nI 0) (by decide) ?_
  refine pv_ist4 d_Y_together_3 rfl (by decide) ?_
  exact loop 5 0 rfl

end REF2
