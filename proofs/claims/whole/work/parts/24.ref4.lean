/-! 24.ref4: form and the public methods of the reference -/
section REF4
variable {l : Launch} {D : va_G} {ty : Nat → ClassId} {base b : Nat} {τ : Nat → Nat → Nat} {ρ ξ : List va_E}
variable {M : List va_E}
set_option maxRecDepth 100000 in
set_option maxHeartbeats 4000000 in
theorem k_Y_form {post : List va_E → Prop} (hξ : ξ.length = 40) {a : Nat} (ha : a < 2 ^ 31) (hb : bY τ) (ok : y_formOK τ a) (k : post (ξ ++ memY (y_form τ a))) : pv_M l D ty base b 4 0 0 (fun _ => True) y_Y_form c_Y_form 7 none [.ref (40 + 1), .int (nI (a))] (ξ ++ memY τ) (pv_QV D ty base b post) := by
  refine pv_enter [some (.ref (40 + 1)), some (.int (nI (a))), none, none, none, none, none] (by decide) (fun _ => rfl) (fun _ => Nat.le_of_ble_eq_true rfl) ?_
  have hal : y_all τ a < 32 := y_av_lt 5 0 (by decide) (by decide)
  have hlv := ok.2.1
  have hlv2 := y_lv_le (τ := τ) (a := a) 5 0 (by decide) (by decide)
  have hlo : y_low τ a < 5 := by unfold y_low; omega
  have hbn : bY (y_newR (y_g a (y_all τ a) τ 5).1 (y_all τ a) (y_low τ a)) := bY_newR (bY_g hb ok.1 5 (by decide)) ok.2.2 hal hlo
  have loopC : ∀ (j i : Nat), i + j = 5 → pv_V l D ty base b c_Y_form 7 y_Y_form.cls none y_Y_form.name (pv_rm 4 0 0) (fun _ => True) (pv_Qf base 0 0 (pv_QV D ty base b post)) 0 0 123 [some (.ref (40 + 1)), some (.int (nI (a))), some (.int (nI (y_all τ a))), some (.int (nI (y_low τ a))), none, some (.int (nI (i))), none] [] (ξ ++ memY (y_en (y_all τ a) (y_newR (y_g a (y_all τ a) τ 5).1 (y_all τ a) (y_low τ a)) i)) := by
    intro j
    induction j with
    | zero =>
      intro i hi
      refine pv_iload d_Y_form_123 rfl ?_
      refine pv_iconst d_Y_form_125 (nI 5) (by decide) ?_
      first | refine pv_icmpN_ge 151 (by decide) d_Y_form_126 (by first | assumption | omega | exact Nat.lt_of_le_of_lt Nat.and_le_right (by decide)) (by first | assumption | omega | exact Nat.lt_of_le_of_lt Nat.and_le_right (by decide)) (fun h126 => ?_) (fun h126 => ?_) | refine pv_icmp_ge 151 (by decide) d_Y_form_126 (fun h126 => ?_) (fun h126 => ?_)
      · refine pv_vret d_Y_form_151 ?_
        obtain rfl : i = 5 := by omega
        exact k
      · omega
    | succ j ih =>
      intro i hi
      refine pv_iload d_Y_form_123 rfl ?_
      refine pv_iconst d_Y_form_125 (nI 5) (by decide) ?_
      first | refine pv_icmpN_ge 151 (by decide) d_Y_form_126 (by first | assumption | omega | exact Nat.lt_of_le_of_lt Nat.and_le_right (by decide)) (by first | assumption | omega | exact Nat.lt_of_le_of_lt Nat.and_le_right (by decide)) (fun h126 => ?_) (fun h126 => ?_) | refine pv_icmp_ge 151 (by decide) d_Y_form_126 (fun h126 => ?_) (fun h126 => ?_)
      · omega
      · refine pv_iload_n d_Y_form_129 rfl rfl ?_
        refine pv_iload d_Y_form_130 rfl ?_
        refine pv_ishrN d_Y_form_132 (by first | assumption | omega) (by first | assumption | omega) ?_
        refine pv_iconst d_Y_form_133 (nI 1) (by decide) ?_
        first | refine pv_iandN d_Y_form_134 ?_ | refine pv_iand d_Y_form_134 ?_
        refine pv_iconst d_Y_form_135 (nI 1) (by decide) ?_
        first | refine pv_icmpN_ne 145 (by decide) d_Y_form_136 (by first | assumption | omega | exact Nat.lt_of_le_of_lt Nat.and_le_right (by decide)) (by first | assumption | omega | exact Nat.lt_of_le_of_lt Nat.and_le_right (by decide)) (fun h136 => ?_) (fun h136 => ?_) | refine pv_icmp_ne 145 (by decide) d_Y_form_136 (fun h136 => ?_) (fun h136 => ?_)
        · refine pv_inc5 d_Y_form_145 rfl (by decide) ?_
          refine pv_goto 123 (by decide) d_Y_form_148 ?_
          have hz := ih (i + 1) (by omega)
          rw [y_en_s] at hz
          rw [if_neg (fun z => h136 (tb_div.mpr z))] at hz
          exact hz
        · refine pv_aload_n d_Y_form_139 rfl rfl ?_
          refine pv_iload d_Y_form_140 rfl ?_
          refine pv_callV1V d_Y_form_142 (k_Y_enter hξ (by omega) (bY_en hbn i) ?_) sb_Y_enter wm_Y_150 (gy_Y (by first | assumption | omega)) rfl ⟨wi_Y_enter, we_Y_enter⟩ (by decide) (by decide) (Nat.le_of_ble_eq_true rfl) (by decide) (by decide)
          refine pv_inc5 d_Y_form_145 rfl (by decide) ?_
          refine pv_goto 123 (by decide) d_Y_form_148 ?_
          have hz := ih (i + 1) (by omega)
          rw [y_en_s] at hz
          rw [if_pos (tb_div.mp h136)] at hz
          exact hz
  have loopB : ∀ (j i : Nat), i + j = 5 → pv_V l D ty base b c_Y_form 7 y_Y_form.cls none y_Y_form.name (pv_rm 4 0 0) (fun _ => True) (pv_Qf base 0 0 (pv_QV D ty base b post)) 0 0 55 [some (.ref (40 + 1)), some (.int (nI (a))), some (.int (nI (y_all τ a))), some (.int (nI (y_low τ a))), some (.int (nI ((y_g a (y_all τ a) τ i).2))), some (.int (nI (i))), none] [] (ξ ++ memY (y_g a (y_all τ a) τ i).1) := by
    intro j
    induction j with
    | zero =>
      intro i hi
      refine pv_iload d_Y_form_55 rfl ?_
      refine pv_iconst d_Y_form_57 (nI 5) (by decide) ?_
      first | refine pv_icmpN_ge 114 (by decide) d_Y_form_58 (by first | assumption | omega | exact Nat.lt_of_le_of_lt Nat.and_le_right (by decide)) (by first | assumption | omega | exact Nat.lt_of_le_of_lt Nat.and_le_right (by decide)) (fun h58 => ?_) (fun h58 => ?_) | refine pv_icmp_ge 114 (by decide) d_Y_form_58 (fun h58 => ?_) (fun h58 => ?_)
      · obtain rfl : i = 5 := by omega
        refine pv_aload_n d_Y_form_114 rfl rfl ?_
        refine pv_iload_n d_Y_form_115 rfl rfl ?_
        refine pv_iload_n d_Y_form_116 rfl rfl ?_
        refine pv_callV2V d_Y_form_117 (k_Y_newRing hξ ok.2.2 ?_) sb_Y_newRing wm_Y_147 (gy_Y (by first | assumption | omega)) rfl ⟨wi_Y_newRing, we_Y_newRing⟩ (by decide) (by decide) (Nat.le_of_ble_eq_true rfl) (by decide) (by decide)
        refine pv_iconst d_Y_form_120 (nI 0) (by decide) ?_
        refine pv_ist5 d_Y_form_121 rfl (by decide) ?_
        refine pv_fg4 ?_
        exact loopC 5 0 rfl
      · omega
    | succ j ih =>
      intro i hi
      refine pv_iload d_Y_form_55 rfl ?_
      refine pv_iconst d_Y_form_57 (nI 5) (by decide) ?_
      first | refine pv_icmpN_ge 114 (by decide) d_Y_form_58 (by first | assumption | omega | exact Nat.lt_of_le_of_lt Nat.and_le_right (by decide)) (by first | assumption | omega | exact Nat.lt_of_le_of_lt Nat.and_le_right (by decide)) (fun h58 => ?_) (fun h58 => ?_) | refine pv_icmp_ge 114 (by decide) d_Y_form_58 (fun h58 => ?_) (fun h58 => ?_)
      · omega
      · have hd2 := y_g2_lt (a := a) (all := y_all τ a) (τ := τ) i
        have q2 : (y_g a (y_all τ a) τ i).1 2 i < 520 := bY_g hb ok.1 i (by omega) 2 i
        refine pv_iload_n d_Y_form_61 rfl rfl ?_
        refine pv_iload d_Y_form_62 rfl ?_
        refine pv_ishrN d_Y_form_64 (by first | assumption | omega) (by first | assumption | omega) ?_
        refine pv_iconst d_Y_form_65 (nI 1) (by decide) ?_
        first | refine pv_iandN d_Y_form_66 ?_ | refine pv_iand d_Y_form_66 ?_
        refine pv_iconst d_Y_form_67 (nI 1) (by decide) ?_
        first | refine pv_icmpN_ne 108 (by decide) d_Y_form_68 (by first | assumption | omega | exact Nat.lt_of_le_of_lt Nat.and_le_right (by decide)) (by first | assumption | omega | exact Nat.lt_of_le_of_lt Nat.and_le_right (by decide)) (fun h68 => ?_) (fun h68 => ?_) | refine pv_icmp_ne 108 (by decide) d_Y_form_68 (fun h68 => ?_) (fun h68 => ?_)
        · refine pv_inc5 d_Y_form_108 rfl (by decide) ?_
          refine pv_goto 55 (by decide) d_Y_form_111 ?_
          have hz := ih (i + 1) (by omega)
          rw [y_g_s] at hz
          refine pv_fg6 ?_
          rw [if_neg (fun z => h68 (tb_div.mpr (of_decide_eq_true z).1))] at hz
          exact hz
        · refine pv_iload d_Y_form_71 rfl ?_
          refine pv_iload d_Y_form_73 rfl ?_
          refine pv_ishrN d_Y_form_75 (by first | assumption | omega) (by first | assumption | omega) ?_
          refine pv_iconst d_Y_form_76 (nI 1) (by decide) ?_
          first | refine pv_iandN d_Y_form_77 ?_ | refine pv_iand d_Y_form_77 ?_
          first | refine pv_ifN_ne 108 (by decide) d_Y_form_78 (by first | assumption | omega | exact Nat.lt_of_le_of_lt Nat.and_le_right (by decide)) (fun h78 => ?_) (fun h78 => ?_) | refine pv_if_ne 108 (by decide) d_Y_form_78 (fun h78 => ?_) (fun h78 => ?_)
          · refine pv_inc5 d_Y_form_108 rfl (by decide) ?_
            refine pv_goto 55 (by decide) d_Y_form_111 ?_
            have hz := ih (i + 1) (by omega)
            rw [y_g_s] at hz
            refine pv_fg6 ?_
            rw [if_neg (fun z => h78 (tb_div_0.mpr (of_decide_eq_true z).2))] at hz
            exact hz
          · refine pv_aload_n d_Y_form_81 rfl rfl ?_
            refine pv_iload_n d_Y_form_82 rfl rfl ?_
            refine pv_aload_n d_Y_form_83 rfl rfl ?_
            refine gY_ringOf d_Y_form_84 ff_Y_17 (by first | assumption | omega) ?_
            refine pv_iload d_Y_form_87 rfl ?_
            refine ly_ringOf d_Y_form_89 (by first | assumption | omega) (by first | assumption | omega) ?_
            refine pv_callV2I d_Y_form_90 (k_Y_together hξ ha (by omega) (bY_g hb ok.1 i (by omega)) ?_) sb_Y_together wm_Y_141 (gy_Y (by first | assumption | omega)) rfl ⟨wi_Y_together, we_Y_together⟩ (by decide) (by decide) (Nat.le_of_ble_eq_true rfl) (by decide) (by decide)
            refine pv_ist6 d_Y_form_93 rfl (by decide) ?_
            refine pv_aload_n d_Y_form_95 rfl rfl ?_
            refine pv_iload d_Y_form_96 rfl ?_
            refine pv_callV1V d_Y_form_98 (k_Y_share hξ (Nat.lt_trans (y_tog_lt 5) (by decide)) (bY_g hb ok.1 i (by omega)) (ok.1 i (by omega) (decide_eq_true ⟨tb_div.mp h68, tb_div_0.mp h78⟩)) ?_) sb_Y_share wm_Y_144 (gy_Y (by first | assumption | omega)) rfl ⟨wi_Y_share, we_Y_share⟩ (by decide) (by decide) (Nat.le_of_ble_eq_true rfl) (by decide) (by decide)
            refine pv_iload d_Y_form_101 rfl ?_
            refine pv_iload d_Y_form_103 rfl ?_
            first | refine pv_iorN d_Y_form_105 ?_ | refine pv_ior d_Y_form_105 ?_
            refine pv_ist4 d_Y_form_106 rfl (by decide) ?_
            refine pv_inc5 d_Y_form_108 rfl (by decide) ?_
            refine pv_goto 55 (by decide) d_Y_form_111 ?_
            have hz := ih (i + 1) (by omega)
            rw [y_g_s] at hz
            refine pv_fg6 ?_
            rw [if_pos (show y_gc (y_all τ a) i (y_g a (y_all τ a) τ i) = true from decide_eq_true ⟨tb_div.mp h68, tb_div_0.mp h78⟩)] at hz
            exact hz
  have loopA : ∀ (j c lz : Nat), j ≤ 5 → c < 32 → y_av τ a j c = y_all τ a → y_lv τ a j lz = y_lv τ a 5 0 → pv_V l D ty base b c_Y_form 7 y_Y_form.cls none y_Y_form.name (pv_rm 4 0 0) (fun _ => True) (pv_Qf base 0 0 (pv_QV D ty base b post)) 0 0 7 [some (.ref (40 + 1)), some (.int (nI (a))), some (.int (nI (c))), some (.int (nI (lz) - 1)), some (.int (nI j - 1)), none, none] [] (ξ ++ memY τ) := by
    intro j
    induction j with
    | zero =>
      intro c lz hj hc hx hy
      have hx : c = y_all τ a := hx
      have hy : lz = y_lv τ a 5 0 := hy
      obtain ⟨h, hh⟩ : ∃ h, lz = h + 1 := ⟨lz - 1, by omega⟩
      have hlo : y_low τ a = h := by unfold y_low; omega
      rw [hh, nI_pred, hx, ← hlo]
      refine pv_iload d_Y_form_7 rfl ?_
      refine pv_if_lt 49 (by decide) d_Y_form_9 (fun h9 => ?_) (fun h9 => ?_)
      · refine pv_iconst d_Y_form_49 (nI 0) (by decide) ?_
        refine pv_ist4 d_Y_form_50 rfl (by decide) ?_
        refine pv_iconst d_Y_form_52 (nI 0) (by decide) ?_
        refine pv_ist5 d_Y_form_53 rfl (by decide) ?_
        exact loopB 5 0 rfl
      · exact absurd (show nI 0 - 1 < 0 by decide) h9
    | succ j ih =>
      intro c lz hj hc hx hy
      rw [nI_pred]
      unfold y_av at hx
      unfold y_lv at hy
      refine pv_iload d_Y_form_7 rfl ?_
      refine pv_if_lt 49 (by decide) d_Y_form_9 (fun h9 => ?_) (fun h9 => ?_)
      · exact absurd h9 (nI_pos (by omega))
      · have q0 : τ 0 j < 2 := hb 0 j
        have q1 : τ 1 j < 3 := hb 1 j
        refine pv_aload_n d_Y_form_12 rfl rfl ?_
        refine gY_up d_Y_form_13 ff_Y_7 (by first | assumption | omega) ?_
        refine pv_iload d_Y_form_16 rfl ?_
        refine ly_up d_Y_form_18 (by first | assumption | omega) (by first | assumption | omega) ?_
        first | refine pv_ifN_eq 43 (by decide) d_Y_form_19 (by first | assumption | omega | exact Nat.lt_of_le_of_lt Nat.and_le_right (by decide)) (fun h19 => ?_) (fun h19 => ?_) | refine pv_if_eq 43 (by decide) d_Y_form_19 (fun h19 => ?_) (fun h19 => ?_)
        · refine pv_iinc d_Y_form_43 (nI j - 1) rfl (nI_m1 j) rfl (by simp) (by decide) ?_
          refine pv_goto 7 (by decide) d_Y_form_46 ?_
          rw [if_neg (show ¬ y_inA τ a j = true from fun z => (of_decide_eq_true z : τ 0 j ≠ 0 ∧ τ 1 j = a).1 h19)] at hx hy
          exact ih c lz (by omega) hc hx hy
        · refine pv_aload_n d_Y_form_22 rfl rfl ?_
          refine gY_area d_Y_form_23 ff_Y_13 (by first | assumption | omega) ?_
          refine pv_iload d_Y_form_26 rfl ?_
          refine ly_area d_Y_form_28 (by first | assumption | omega) (by first | assumption | omega) ?_
          refine pv_iload_n d_Y_form_29 rfl rfl ?_
          first | refine pv_icmpN_ne 43 (by decide) d_Y_form_30 (by first | assumption | omega | exact Nat.lt_of_le_of_lt Nat.and_le_right (by decide)) (by first | assumption | omega | exact Nat.lt_of_le_of_lt Nat.and_le_right (by decide)) (fun h30 => ?_) (fun h30 => ?_) | refine pv_icmp_ne 43 (by decide) d_Y_form_30 (fun h30 => ?_) (fun h30 => ?_)
          · refine pv_iinc d_Y_form_43 (nI j - 1) rfl (nI_m1 j) rfl (by simp) (by decide) ?_
            refine pv_goto 7 (by decide) d_Y_form_46 ?_
            rw [if_neg (show ¬ y_inA τ a j = true from fun z => h30 (of_decide_eq_true z : τ 0 j ≠ 0 ∧ τ 1 j = a).2)] at hx hy
            exact ih c lz (by omega) hc hx hy
          · refine pv_iload_n d_Y_form_33 rfl rfl ?_
            refine pv_iconst d_Y_form_34 (nI 1) (by decide) ?_
            refine pv_iload d_Y_form_35 rfl ?_
            first | refine pv_ishl1 d_Y_form_37 (by omega) ?_ | refine pv_ishl d_Y_form_37 ?_
            first | refine pv_iorN d_Y_form_38 ?_ | refine pv_ior d_Y_form_38 ?_
            refine pv_ist2 d_Y_form_39 rfl (by decide) ?_
            refine pv_iload d_Y_form_40 rfl ?_
            refine pv_ist3 d_Y_form_42 rfl (by decide) ?_
            refine pv_iinc d_Y_form_43 (nI j - 1) rfl (nI_m1 j) rfl (by simp) (by decide) ?_
            refine pv_goto 7 (by decide) d_Y_form_46 ?_
            rw [if_pos (show y_inA τ a j = true from decide_eq_true ⟨h19, h30⟩)] at hx hy
            have hz := ih (c ||| 2 ^ j) (j + 1) (by omega) (Nat.or_lt_two_pow (n := 5) hc (Nat.pow_lt_pow_right (by decide) (by omega))) hx hy
            rw [nI_pred] at hz
            exact hz
  refine pv_iconst d_Y_form_0 (nI 0) (by decide) ?_
  refine pv_ist2 d_Y_form_1 rfl (by decide) ?_
  refine pv_iconst d_Y_form_2 (-1) (by decide) ?_
  refine pv_ist3 d_Y_form_3 rfl (by decide) ?_
  refine pv_iconst d_Y_form_4 (nI 4) (by decide) ?_
  refine pv_ist4 d_Y_form_5 rfl (by decide) ?_
  have hz := loopA 5 0 0 (by decide) (by decide) rfl rfl
  rw [nI_pred, ← m1_0] at hz
  exact hz

theorem k_Y_refuse_dn {post : Int32 → List va_E → Prop} (hξ : ξ.length = 40) {n : Nat} (hn : n < 5) (hb : bY τ) (hu : τ 0 n = 0) (k : post (-2) (ξ ++ memY τ)) : pv_M l D ty base b 1 0 0 (fun _ => True) y_Y_refuse c_Y_refuse 2 (some .int) [.ref (40 + 1), .int (nI n)] (ξ ++ memY τ) (pv_QI D ty base b post) := k_Y_refuse hξ hn hb (by rw [if_pos hu]; exact k)
theorem k_Y_refuse_up {post : Int32 → List va_E → Prop} (hξ : ξ.length = 40) {n : Nat} (hn : n < 5) (hb : bY τ) (hu : τ 0 n ≠ 0) (k : post (nI 0) (ξ ++ memY τ)) : pv_M l D ty base b 1 0 0 (fun _ => True) y_Y_refuse c_Y_refuse 2 (some .int) [.ref (40 + 1), .int (nI n)] (ξ ++ memY τ) (pv_QI D ty base b post) := k_Y_refuse hξ hn hb (by rw [if_neg hu]; exact k)
set_option maxRecDepth 100000 in
set_option maxHeartbeats 4000000 in
theorem k_Y_ring_no {post : Int32 → List va_E → Prop} (hξ : ξ.length = 40) {x : Int32} (h : x < 0 ∨ nI 4 < x) (k : post (-3) (ξ ++ memY τ)) : pv_M l D ty base b 2 0 0 (fun _ => True) y_Y_ring c_Y_ring 3 (some .int) [.ref (40 + 1), .int x] (ξ ++ memY τ) (pv_QI D ty base b post) := by
  refine pv_enter [some (.ref (40 + 1)), some (.int x), none] (by decide) (fun _ => rfl) (fun _ => Nat.le_of_ble_eq_true rfl) ?_
  refine pv_aload_n d_Y_ring_0 rfl rfl ?_
  refine pv_iload_n d_Y_ring_1 rfl rfl ?_
  refine pv_callV1I d_Y_ring_2 (k_Y_refuse_no hξ h ?_) sb_Y_refuse wm_Y_91 (gy_Y (by first | assumption | omega)) rfl ⟨wi_Y_refuse, we_Y_refuse⟩ (by decide) (by decide) (Nat.le_of_ble_eq_true rfl) (by decide) (by decide)
  refine pv_ist2 d_Y_ring_5 rfl (by decide) ?_
  refine pv_iload_n d_Y_ring_6 rfl rfl ?_
  first | refine pv_ifN_eq 14 (by decide) d_Y_ring_7 (by first | assumption | omega | exact Nat.lt_of_le_of_lt Nat.and_le_right (by decide)) (fun h7 => ?_) (fun h7 => ?_) | refine pv_if_eq 14 (by decide) d_Y_ring_7 (fun h7 => ?_) (fun h7 => ?_)
  · exact absurd h7 (by decide)
  · refine pv_iload_n d_Y_ring_10 rfl rfl ?_
    refine pv_goto 20 (by decide) d_Y_ring_11 ?_
    refine pv_iret d_Y_ring_20 ?_
    exact k

set_option maxRecDepth 100000 in
set_option maxHeartbeats 4000000 in
theorem k_Y_ring_dn {post : Int32 → List va_E → Prop} (hξ : ξ.length = 40) {n : Nat} (hn : n < 5) (hb : bY τ) (hu : τ 0 n = 0) (k : post (-2) (ξ ++ memY τ)) : pv_M l D ty base b 2 0 0 (fun _ => True) y_Y_ring c_Y_ring 3 (some .int) [.ref (40 + 1), .int (nI (n))] (ξ ++ memY τ) (pv_QI D ty base b post) := by
  refine pv_enter [some (.ref (40 + 1)), some (.int (nI (n))), none] (by decide) (fun _ => rfl) (fun _ => Nat.le_of_ble_eq_true rfl) ?_
  refine pv_aload_n d_Y_ring_0 rfl rfl ?_
  refine pv_iload_n d_Y_ring_1 rfl rfl ?_
  refine pv_callV1I d_Y_ring_2 (k_Y_refuse_dn hξ hn hb hu ?_) sb_Y_refuse wm_Y_91 (gy_Y (by first | assumption | omega)) rfl ⟨wi_Y_refuse, we_Y_refuse⟩ (by decide) (by decide) (Nat.le_of_ble_eq_true rfl) (by decide) (by decide)
  refine pv_ist2 d_Y_ring_5 rfl (by decide) ?_
  refine pv_iload_n d_Y_ring_6 rfl rfl ?_
  first | refine pv_ifN_eq 14 (by decide) d_Y_ring_7 (by first | assumption | omega | exact Nat.lt_of_le_of_lt Nat.and_le_right (by decide)) (fun h7 => ?_) (fun h7 => ?_) | refine pv_if_eq 14 (by decide) d_Y_ring_7 (fun h7 => ?_) (fun h7 => ?_)
  · exact absurd h7 (by decide)
  · refine pv_iload_n d_Y_ring_10 rfl rfl ?_
    refine pv_goto 20 (by decide) d_Y_ring_11 ?_
    refine pv_iret d_Y_ring_20 ?_
    exact k

set_option maxRecDepth 100000 in
set_option maxHeartbeats 4000000 in
theorem k_Y_ring_up {post : Int32 → List va_E → Prop} (hξ : ξ.length = 40) {n : Nat} (hn : n < 5) (hb : bY τ) (hu : τ 0 n ≠ 0) (k : post (nI (τ 2 n)) (ξ ++ memY τ)) : pv_M l D ty base b 2 0 0 (fun _ => True) y_Y_ring c_Y_ring 3 (some .int) [.ref (40 + 1), .int (nI (n))] (ξ ++ memY τ) (pv_QI D ty base b post) := by
  refine pv_enter [some (.ref (40 + 1)), some (.int (nI (n))), none] (by decide) (fun _ => rfl) (fun _ => Nat.le_of_ble_eq_true rfl) ?_
  refine pv_aload_n d_Y_ring_0 rfl rfl ?_
  refine pv_iload_n d_Y_ring_1 rfl rfl ?_
  refine pv_callV1I d_Y_ring_2 (k_Y_refuse_up hξ hn hb hu ?_) sb_Y_refuse wm_Y_91 (gy_Y (by first | assumption | omega)) rfl ⟨wi_Y_refuse, we_Y_refuse⟩ (by decide) (by decide) (Nat.le_of_ble_eq_true rfl) (by decide) (by decide)
  refine pv_ist2 d_Y_ring_5 rfl (by decide) ?_
  refine pv_iload_n d_Y_ring_6 rfl rfl ?_
  first | refine pv_ifN_eq 14 (by decide) d_Y_ring_7 (by first | assumption | omega | exact Nat.lt_of_le_of_lt Nat.and_le_right (by decide)) (fun h7 => ?_) (fun h7 => ?_) | refine pv_if_eq 14 (by decide) d_Y_ring_7 (fun h7 => ?_) (fun h7 => ?_)
  · refine pv_aload_n d_Y_ring_14 rfl rfl ?_
    refine gY_ringOf d_Y_ring_15 ff_Y_17 (by first | assumption | omega) ?_
    refine pv_iload_n d_Y_ring_18 rfl rfl ?_
    refine ly_ringOf d_Y_ring_19 (by first | assumption | omega) (by first | assumption | omega) ?_
    refine pv_iret d_Y_ring_20 ?_
    exact k
  · refine pv_iload_n d_Y_ring_10 rfl rfl ?_
    refine pv_goto 20 (by decide) d_Y_ring_11 ?_
    refine pv_iret d_Y_ring_20 ?_
    exact absurd rfl h7

set_option maxRecDepth 100000 in
set_option maxHeartbeats 4000000 in
theorem k_Y_members_no {post : Int32 → List va_E → Prop} (hξ : ξ.length = 40) {x : Int32} (h : x < 0 ∨ nI 4 < x) (k : post (-3) (ξ ++ memY τ)) : pv_M l D ty base b 2 0 0 (fun _ => True) y_Y_members c_Y_members 3 (some .int) [.ref (40 + 1), .int x] (ξ ++ memY τ) (pv_QI D ty base b post) := by
  refine pv_enter [some (.ref (40 + 1)), some (.int x), none] (by decide) (fun _ => rfl) (fun _ => Nat.le_of_ble_eq_true rfl) ?_
  refine pv_aload_n d_Y_members_0 rfl rfl ?_
  refine pv_iload_n d_Y_members_1 rfl rfl ?_
  refine pv_callV1I d_Y_members_2 (k_Y_refuse_no hξ h ?_) sb_Y_refuse wm_Y_91 (gy_Y (by first | assumption | omega)) rfl ⟨wi_Y_refuse, we_Y_refuse⟩ (by decide) (by decide) (Nat.le_of_ble_eq_true rfl) (by decide) (by decide)
  refine pv_ist2 d_Y_members_5 rfl (by decide) ?_
  refine pv_iload_n d_Y_members_6 rfl rfl ?_
  first | refine pv_ifN_eq 14 (by decide) d_Y_members_7 (by first | assumption | omega | exact Nat.lt_of_le_of_lt Nat.and_le_right (by decide)) (fun h7 => ?_) (fun h7 => ?_) | refine pv_if_eq 14 (by decide) d_Y_members_7 (fun h7 => ?_) (fun h7 => ?_)
  · exact absurd h7 (by decide)
  · refine pv_iload_n d_Y_members_10 rfl rfl ?_
    refine pv_goto 25 (by decide) d_Y_members_11 ?_
    refine pv_iret d_Y_members_25 ?_
    exact k

set_option maxRecDepth 100000 in
set_option maxHeartbeats 4000000 in
theorem k_Y_members_dn {post : Int32 → List va_E → Prop} (hξ : ξ.length = 40) {n : Nat} (hn : n < 5) (hb : bY τ) (hu : τ 0 n = 0) (k : post (-2) (ξ ++ memY τ)) : pv_M l D ty base b 2 0 0 (fun _ => True) y_Y_members c_Y_members 3 (some .int) [.ref (40 + 1), .int (nI (n))] (ξ ++ memY τ) (pv_QI D ty base b post) := by
  refine pv_enter [some (.ref (40 + 1)), some (.int (nI (n))), none] (by decide) (fun _ => rfl) (fun _ => Nat.le_of_ble_eq_true rfl) ?_
  refine pv_aload_n d_Y_members_0 rfl rfl ?_
  refine pv_iload_n d_Y_members_1 rfl rfl ?_
  refine pv_callV1I d_Y_members_2 (k_Y_refuse_dn hξ hn hb hu ?_) sb_Y_refuse wm_Y_91 (gy_Y (by first | assumption | omega)) rfl ⟨wi_Y_refuse, we_Y_refuse⟩ (by decide) (by decide) (Nat.le_of_ble_eq_true rfl) (by decide) (by decide)
  refine pv_ist2 d_Y_members_5 rfl (by decide) ?_
  refine pv_iload_n d_Y_members_6 rfl rfl ?_
  first | refine pv_ifN_eq 14 (by decide) d_Y_members_7 (by first | assumption | omega | exact Nat.lt_of_le_of_lt Nat.and_le_right (by decide)) (fun h7 => ?_) (fun h7 => ?_) | refine pv_if_eq 14 (by decide) d_Y_members_7 (fun h7 => ?_) (fun h7 => ?_)
  · exact absurd h7 (by decide)
  · refine pv_iload_n d_Y_members_10 rfl rfl ?_
    refine pv_goto 25 (by decide) d_Y_members_11 ?_
    refine pv_iret d_Y_members_25 ?_
    exact k

set_option maxRecDepth 100000 in
set_option maxHeartbeats 4000000 in
theorem k_Y_members_up {post : Int32 → List va_E → Prop} (hξ : ξ.length = 40) {n : Nat} (hn : n < 5) (hb : bY τ) (hu : τ 0 n ≠ 0) (k : post (nI (τ 19 (τ 2 n))) (ξ ++ memY τ)) : pv_M l D ty base b 2 0 0 (fun _ => True) y_Y_members c_Y_members 3 (some .int) [.ref (40 + 1), .int (nI (n))] (ξ ++ memY τ) (pv_QI D ty base b post) := by
  refine pv_enter [some (.ref (40 + 1)), some (.int (nI (n))), none] (by decide) (fun _ => rfl) (fun _ => Nat.le_of_ble_eq_true rfl) ?_
  refine pv_aload_n d_Y_members_0 rfl rfl ?_
  refine pv_iload_n d_Y_members_1 rfl rfl ?_
  refine pv_callV1I d_Y_members_2 (k_Y_refuse_up hξ hn hb hu ?_) sb_Y_refuse wm_Y_91 (gy_Y (by first | assumption | omega)) rfl ⟨wi_Y_refuse, we_Y_refuse⟩ (by decide) (by decide) (Nat.le_of_ble_eq_true rfl) (by decide) (by decide)
  refine pv_ist2 d_Y_members_5 rfl (by decide) ?_
  refine pv_iload_n d_Y_members_6 rfl rfl ?_
  first | refine pv_ifN_eq 14 (by decide) d_Y_members_7 (by first | assumption | omega | exact Nat.lt_of_le_of_lt Nat.and_le_right (by decide)) (fun h7 => ?_) (fun h7 => ?_) | refine pv_if_eq 14 (by decide) d_Y_members_7 (fun h7 => ?_) (fun h7 => ?_)
  · have q2 : τ 2 n < 520 := hb 2 n
    refine pv_aload_n d_Y_members_14 rfl rfl ?_
    refine gY_memberBits d_Y_members_15 ff_Y_62 (by first | assumption | omega) ?_
    refine pv_aload_n d_Y_members_18 rfl rfl ?_
    refine gY_ringOf d_Y_members_19 ff_Y_17 (by first | assumption | omega) ?_
    refine pv_iload_n d_Y_members_22 rfl rfl ?_
    refine ly_ringOf d_Y_members_23 (by first | assumption | omega) (by first | assumption | omega) ?_
    refine ly_memberBits d_Y_members_24 (by first | assumption | omega) (by first | assumption | omega) ?_
    refine pv_iret d_Y_members_25 ?_
    exact k
  · refine pv_iload_n d_Y_members_10 rfl rfl ?_
    refine pv_goto 25 (by decide) d_Y_members_11 ?_
    refine pv_iret d_Y_members_25 ?_
    exact absurd rfl h7

set_option maxRecDepth 100000 in
set_option maxHeartbeats 4000000 in
theorem k_Y_token_no {post : Int32 → List va_E → Prop} (hξ : ξ.length = 40) {x : Int32} (h : x < 0 ∨ nI 4 < x) (k : post (-3) (ξ ++ memY τ)) : pv_M l D ty base b 2 0 0 (fun _ => True) y_Y_token c_Y_token 3 (some .int) [.ref (40 + 1), .int x] (ξ ++ memY τ) (pv_QI D ty base b post) := by
  refine pv_enter [some (.ref (40 + 1)), some (.int x), none] (by decide) (fun _ => rfl) (fun _ => Nat.le_of_ble_eq_true rfl) ?_
  refine pv_aload_n d_Y_token_0 rfl rfl ?_
  refine pv_iload_n d_Y_token_1 rfl rfl ?_
  refine pv_callV1I d_Y_token_2 (k_Y_refuse_no hξ h ?_) sb_Y_refuse wm_Y_91 (gy_Y (by first | assumption | omega)) rfl ⟨wi_Y_refuse, we_Y_refuse⟩ (by decide) (by decide) (Nat.le_of_ble_eq_true rfl) (by decide) (by decide)
  refine pv_ist2 d_Y_token_5 rfl (by decide) ?_
  refine pv_iload_n d_Y_token_6 rfl rfl ?_
  first | refine pv_ifN_eq 14 (by decide) d_Y_token_7 (by first | assumption | omega | exact Nat.lt_of_le_of_lt Nat.and_le_right (by decide)) (fun h7 => ?_) (fun h7 => ?_) | refine pv_if_eq 14 (by decide) d_Y_token_7 (fun h7 => ?_) (fun h7 => ?_)
  · exact absurd h7 (by decide)
  · refine pv_iload_n d_Y_token_10 rfl rfl ?_
    refine pv_goto 25 (by decide) d_Y_token_11 ?_
    refine pv_iret d_Y_token_25 ?_
    exact k

set_option maxRecDepth 100000 in
set_option maxHeartbeats 4000000 in
theorem k_Y_token_dn {post : Int32 → List va_E → Prop} (hξ : ξ.length = 40) {n : Nat} (hn : n < 5) (hb : bY τ) (hu : τ 0 n = 0) (k : post (-2) (ξ ++ memY τ)) : pv_M l D ty base b 2 0 0 (fun _ => True) y_Y_token c_Y_token 3 (some .int) [.ref (40 + 1), .int (nI (n))] (ξ ++ memY τ) (pv_QI D ty base b post) := by
  refine pv_enter [some (.ref (40 + 1)), some (.int (nI (n))), none] (by decide) (fun _ => rfl) (fun _ => Nat.le_of_ble_eq_true rfl) ?_
  refine pv_aload_n d_Y_token_0 rfl rfl ?_
  refine pv_iload_n d_Y_token_1 rfl rfl ?_
  refine pv_callV1I d_Y_token_2 (k_Y_refuse_dn hξ hn hb hu ?_) sb_Y_refuse wm_Y_91 (gy_Y (by first | assumption | omega)) rfl ⟨wi_Y_refuse, we_Y_refuse⟩ (by decide) (by decide) (Nat.le_of_ble_eq_true rfl) (by decide) (by decide)
  refine pv_ist2 d_Y_token_5 rfl (by decide) ?_
  refine pv_iload_n d_Y_token_6 rfl rfl ?_
  first | refine pv_ifN_eq 14 (by decide) d_Y_token_7 (by first | assumption | omega | exact Nat.lt_of_le_of_lt Nat.and_le_right (by decide)) (fun h7 => ?_) (fun h7 => ?_) | refine pv_if_eq 14 (by decide) d_Y_token_7 (fun h7 => ?_) (fun h7 => ?_)
  · exact absurd h7 (by decide)
  · refine pv_iload_n d_Y_token_10 rfl rfl ?_
    refine pv_goto 25 (by decide) d_Y_token_11 ?_
    refine pv_iret d_Y_token_25 ?_
    exact k

set_option maxRecDepth 100000 in
set_option maxHeartbeats 4000000 in
theorem k_Y_token_up {post : Int32 → List va_E → Prop} (hξ : ξ.length = 40) {n : Nat} (hn : n < 5) (hb : bY τ) (hu : τ 0 n ≠ 0) (k : post (nI (τ 17 (τ 2 n)) - 1) (ξ ++ memY τ)) : pv_M l D ty base b 2 0 0 (fun _ => True) y_Y_token c_Y_token 3 (some .int) [.ref (40 + 1), .int (nI (n))] (ξ ++ memY τ) (pv_QI D ty base b post) := by
  refine pv_enter [some (.ref (40 + 1)), some (.int (nI (n))), none] (by decide) (fun _ => rfl) (fun _ => Nat.le_of_ble_eq_true rfl) ?_
  refine pv_aload_n d_Y_token_0 rfl rfl ?_
  refine pv_iload_n d_Y_token_1 rfl rfl ?_
  refine pv_callV1I d_Y_token_2 (k_Y_refuse_up hξ hn hb hu ?_) sb_Y_refuse wm_Y_91 (gy_Y (by first | assumption | omega)) rfl ⟨wi_Y_refuse, we_Y_refuse⟩ (by decide) (by decide) (Nat.le_of_ble_eq_true rfl) (by decide) (by decide)
  refine pv_ist2 d_Y_token_5 rfl (by decide) ?_
  refine pv_iload_n d_Y_token_6 rfl rfl ?_
  first | refine pv_ifN_eq 14 (by decide) d_Y_token_7 (by first | assumption | omega | exact Nat.lt_of_le_of_lt Nat.and_le_right (by decide)) (fun h7 => ?_) (fun h7 => ?_) | refine pv_if_eq 14 (by decide) d_Y_token_7 (fun h7 => ?_) (fun h7 => ?_)
  · have q2 : τ 2 n < 520 := hb 2 n
    refine pv_aload_n d_Y_token_14 rfl rfl ?_
    refine gY_at d_Y_token_15 ff_Y_56 (by first | assumption | omega) ?_
    refine pv_aload_n d_Y_token_18 rfl rfl ?_
    refine gY_ringOf d_Y_token_19 ff_Y_17 (by first | assumption | omega) ?_
    refine pv_iload_n d_Y_token_22 rfl rfl ?_
    refine ly_ringOf d_Y_token_23 (by first | assumption | omega) (by first | assumption | omega) ?_
    refine ly_at d_Y_token_24 (by first | assumption | omega) (by first | assumption | omega) ?_
    refine pv_iret d_Y_token_25 ?_
    exact k
  · refine pv_iload_n d_Y_token_10 rfl rfl ?_
    refine pv_goto 25 (by decide) d_Y_token_11 ?_
    refine pv_iret d_Y_token_25 ?_
    exact absurd rfl h7

set_option maxRecDepth 100000 in
set_option maxHeartbeats 4000000 in
theorem k_Y_last_no {post : Int32 → List va_E → Prop} (hξ : ξ.length = 40) {x : Int32} (h : x < 0 ∨ nI 4 < x) (k : post (-3) (ξ ++ memY τ)) : pv_M l D ty base b 2 0 0 (fun _ => True) y_Y_last c_Y_last 3 (some .int) [.ref (40 + 1), .int x] (ξ ++ memY τ) (pv_QI D ty base b post) := by
  refine pv_enter [some (.ref (40 + 1)), some (.int x), none] (by decide) (fun _ => rfl) (fun _ => Nat.le_of_ble_eq_true rfl) ?_
  refine pv_aload_n d_Y_last_0 rfl rfl ?_
  refine pv_iload_n d_Y_last_1 rfl rfl ?_
  refine pv_callV1I d_Y_last_2 (k_Y_refuse_no hξ h ?_) sb_Y_refuse wm_Y_91 (gy_Y (by first | assumption | omega)) rfl ⟨wi_Y_refuse, we_Y_refuse⟩ (by decide) (by decide) (Nat.le_of_ble_eq_true rfl) (by decide) (by decide)
  refine pv_ist2 d_Y_last_5 rfl (by decide) ?_
  refine pv_iload_n d_Y_last_6 rfl rfl ?_
  first | refine pv_ifN_eq 14 (by decide) d_Y_last_7 (by first | assumption | omega | exact Nat.lt_of_le_of_lt Nat.and_le_right (by decide)) (fun h7 => ?_) (fun h7 => ?_) | refine pv_if_eq 14 (by decide) d_Y_last_7 (fun h7 => ?_) (fun h7 => ?_)
  · exact absurd h7 (by decide)
  · refine pv_iload_n d_Y_last_10 rfl rfl ?_
    refine pv_goto 44 (by decide) d_Y_last_11 ?_
    refine pv_iret d_Y_last_44 ?_
    exact k

set_option maxRecDepth 100000 in
set_option maxHeartbeats 4000000 in
theorem k_Y_last_dn {post : Int32 → List va_E → Prop} (hξ : ξ.length = 40) {n : Nat} (hn : n < 5) (hb : bY τ) (hu : τ 0 n = 0) (k : post (-2) (ξ ++ memY τ)) : pv_M l D ty base b 2 0 0 (fun _ => True) y_Y_last c_Y_last 3 (some .int) [.ref (40 + 1), .int (nI (n))] (ξ ++ memY τ) (pv_QI D ty base b post) := by
  refine pv_enter [some (.ref (40 + 1)), some (.int (nI (n))), none] (by decide) (fun _ => rfl) (fun _ => Nat.le_of_ble_eq_true rfl) ?_
  refine pv_aload_n d_Y_last_0 rfl rfl ?_
  refine pv_iload_n d_Y_last_1 rfl rfl ?_
  refine pv_callV1I d_Y_last_2 (k_Y_refuse_dn hξ hn hb hu ?_) sb_Y_refuse wm_Y_91 (gy_Y (by first | assumption | omega)) rfl ⟨wi_Y_refuse, we_Y_refuse⟩ (by decide) (by decide) (Nat.le_of_ble_eq_true rfl) (by decide) (by decide)
  refine pv_ist2 d_Y_last_5 rfl (by decide) ?_
  refine pv_iload_n d_Y_last_6 rfl rfl ?_
  first | refine pv_ifN_eq 14 (by decide) d_Y_last_7 (by first | assumption | omega | exact Nat.lt_of_le_of_lt Nat.and_le_right (by decide)) (fun h7 => ?_) (fun h7 => ?_) | refine pv_if_eq 14 (by decide) d_Y_last_7 (fun h7 => ?_) (fun h7 => ?_)
  · exact absurd h7 (by decide)
  · refine pv_iload_n d_Y_last_10 rfl rfl ?_
    refine pv_goto 44 (by decide) d_Y_last_11 ?_
    refine pv_iret d_Y_last_44 ?_
    exact k

set_option maxRecDepth 100000 in
set_option maxHeartbeats 4000000 in
theorem k_Y_last_up {post : Int32 → List va_E → Prop} (hξ : ξ.length = 40) {n : Nat} (hn : n < 5) (hb : bY τ) (hu : τ 0 n ≠ 0) (k : post (if τ 17 (τ 2 n) = 0 then -1 else nI (τ 18 (τ 2 n))) (ξ ++ memY τ)) : pv_M l D ty base b 2 0 0 (fun _ => True) y_Y_last c_Y_last 3 (some .int) [.ref (40 + 1), .int (nI (n))] (ξ ++ memY τ) (pv_QI D ty base b post) := by
  refine pv_enter [some (.ref (40 + 1)), some (.int (nI (n))), none] (by decide) (fun _ => rfl) (fun _ => Nat.le_of_ble_eq_true rfl) ?_
  refine pv_aload_n d_Y_last_0 rfl rfl ?_
  refine pv_iload_n d_Y_last_1 rfl rfl ?_
  refine pv_callV1I d_Y_last_2 (k_Y_refuse_up hξ hn hb hu ?_) sb_Y_refuse wm_Y_91 (gy_Y (by first | assumption | omega)) rfl ⟨wi_Y_refuse, we_Y_refuse⟩ (by decide) (by decide) (Nat.le_of_ble_eq_true rfl) (by decide) (by decide)
  refine pv_ist2 d_Y_last_5 rfl (by decide) ?_
  refine pv_iload_n d_Y_last_6 rfl rfl ?_
  first | refine pv_ifN_eq 14 (by decide) d_Y_last_7 (by first | assumption | omega | exact Nat.lt_of_le_of_lt Nat.and_le_right (by decide)) (fun h7 => ?_) (fun h7 => ?_) | refine pv_if_eq 14 (by decide) d_Y_last_7 (fun h7 => ?_) (fun h7 => ?_)
  · have q2 : τ 2 n < 520 := hb 2 n
    refine pv_aload_n d_Y_last_14 rfl rfl ?_
    refine gY_at d_Y_last_15 ff_Y_56 (by first | assumption | omega) ?_
    refine pv_aload_n d_Y_last_18 rfl rfl ?_
    refine gY_ringOf d_Y_last_19 ff_Y_17 (by first | assumption | omega) ?_
    refine pv_iload_n d_Y_last_22 rfl rfl ?_
    refine ly_ringOf d_Y_last_23 (by first | assumption | omega) (by first | assumption | omega) ?_
    refine ly_at d_Y_last_24 (by first | assumption | omega) (by first | assumption | omega) ?_
    refine pv_iconst d_Y_last_25 (-1) (by decide) ?_
    first | refine pv_icmpN_ne 33 (by decide) d_Y_last_26 (by first | assumption | omega | exact Nat.lt_of_le_of_lt Nat.and_le_right (by decide)) (by first | assumption | omega | exact Nat.lt_of_le_of_lt Nat.and_le_right (by decide)) (fun h26 => ?_) (fun h26 => ?_) | refine pv_icmp_ne 33 (by decide) d_Y_last_26 (fun h26 => ?_) (fun h26 => ?_)
    · refine pv_aload_n d_Y_last_33 rfl rfl ?_
      refine gY_latest d_Y_last_34 ff_Y_59 (by first | assumption | omega) ?_
      refine pv_aload_n d_Y_last_37 rfl rfl ?_
      refine gY_ringOf d_Y_last_38 ff_Y_17 (by first | assumption | omega) ?_
      refine pv_iload_n d_Y_last_41 rfl rfl ?_
      refine ly_ringOf d_Y_last_42 (by first | assumption | omega) (by first | assumption | omega) ?_
      refine ly_latest d_Y_last_43 (by first | assumption | omega) (by first | assumption | omega) ?_
      refine pv_iret d_Y_last_44 ?_
      rw [if_neg (mt (tk_m1 (Nat.lt_of_lt_of_le (hb 17 (τ 2 n)) (by decide))).mpr h26)] at k
      exact k
    · refine pv_iconst d_Y_last_29 (-1) (by decide) ?_
      refine pv_goto 44 (by decide) d_Y_last_30 ?_
      refine pv_iret d_Y_last_44 ?_
      rw [if_pos ((tk_m1 (Nat.lt_of_lt_of_le (hb 17 (τ 2 n)) (by decide))).mp h26)] at k
      exact k
  · refine pv_iload_n d_Y_last_10 rfl rfl ?_
    refine pv_goto 44 (by decide) d_Y_last_11 ?_
    refine pv_iret d_Y_last_44 ?_
    exact absurd rfl h7

set_option maxRecDepth 100000 in
set_option maxHeartbeats 4000000 in
theorem k_Y_reach_no {post : Int32 → List va_E → Prop} (hξ : ξ.length = 40) {x : Int32} (h : x < 0 ∨ nI 4 < x) (k : post (-3) (ξ ++ memY τ)) : pv_M l D ty base b 3 0 0 (fun _ => True) y_Y_reach c_Y_reach 3 (some .int) [.ref (40 + 1), .int x] (ξ ++ memY τ) (pv_QI D ty base b post) := by
  refine pv_enter [some (.ref (40 + 1)), some (.int x), none] (by decide) (fun _ => rfl) (fun _ => Nat.le_of_ble_eq_true rfl) ?_
  refine pv_aload_n d_Y_reach_0 rfl rfl ?_
  refine pv_iload_n d_Y_reach_1 rfl rfl ?_
  refine pv_callV1I d_Y_reach_2 (k_Y_refuse_no hξ h ?_) sb_Y_refuse wm_Y_91 (gy_Y (by first | assumption | omega)) rfl ⟨wi_Y_refuse, we_Y_refuse⟩ (by decide) (by decide) (Nat.le_of_ble_eq_true rfl) (by decide) (by decide)
  refine pv_ist2 d_Y_reach_5 rfl (by decide) ?_
  refine pv_iload_n d_Y_reach_6 rfl rfl ?_
  first | refine pv_ifN_eq 14 (by decide) d_Y_reach_7 (by first | assumption | omega | exact Nat.lt_of_le_of_lt Nat.and_le_right (by decide)) (fun h7 => ?_) (fun h7 => ?_) | refine pv_if_eq 14 (by decide) d_Y_reach_7 (fun h7 => ?_) (fun h7 => ?_)
  · exact absurd h7 (by decide)
  · refine pv_iload_n d_Y_reach_10 rfl rfl ?_
    refine pv_goto 19 (by decide) d_Y_reach_11 ?_
    refine pv_iret d_Y_reach_19 ?_
    exact k

set_option maxRecDepth 100000 in
set_option maxHeartbeats 4000000 in
theorem k_Y_reach_dn {post : Int32 → List va_E → Prop} (hξ : ξ.length = 40) {n : Nat} (hn : n < 5) (hb : bY τ) (hu : τ 0 n = 0) (k : post (-2) (ξ ++ memY τ)) : pv_M l D ty base b 3 0 0 (fun _ => True) y_Y_reach c_Y_reach 3 (some .int) [.ref (40 + 1), .int (nI (n))] (ξ ++ memY τ) (pv_QI D ty base b post) := by
  refine pv_enter [some (.ref (40 + 1)), some (.int (nI (n))), none] (by decide) (fun _ => rfl) (fun _ => Nat.le_of_ble_eq_true rfl) ?_
  refine pv_aload_n d_Y_reach_0 rfl rfl ?_
  refine pv_iload_n d_Y_reach_1 rfl rfl ?_
  refine pv_callV1I d_Y_reach_2 (k_Y_refuse_dn hξ hn hb hu ?_) sb_Y_refuse wm_Y_91 (gy_Y (by first | assumption | omega)) rfl ⟨wi_Y_refuse, we_Y_refuse⟩ (by decide) (by decide) (Nat.le_of_ble_eq_true rfl) (by decide) (by decide)
  refine pv_ist2 d_Y_reach_5 rfl (by decide) ?_
  refine pv_iload_n d_Y_reach_6 rfl rfl ?_
  first | refine pv_ifN_eq 14 (by decide) d_Y_reach_7 (by first | assumption | omega | exact Nat.lt_of_le_of_lt Nat.and_le_right (by decide)) (fun h7 => ?_) (fun h7 => ?_) | refine pv_if_eq 14 (by decide) d_Y_reach_7 (fun h7 => ?_) (fun h7 => ?_)
  · exact absurd h7 (by decide)
  · refine pv_iload_n d_Y_reach_10 rfl rfl ?_
    refine pv_goto 19 (by decide) d_Y_reach_11 ?_
    refine pv_iret d_Y_reach_19 ?_
    exact k

set_option maxRecDepth 100000 in
set_option maxHeartbeats 4000000 in
theorem k_Y_reach_up {post : Int32 → List va_E → Prop} (hξ : ξ.length = 40) {n : Nat} (hn : n < 5) (hb : bY τ) (hu : τ 0 n ≠ 0) (k : post (nI (y_reach τ n)) (ξ ++ memY τ)) : pv_M l D ty base b 3 0 0 (fun _ => True) y_Y_reach c_Y_reach 3 (some .int) [.ref (40 + 1), .int (nI (n))] (ξ ++ memY τ) (pv_QI D ty base b post) := by
  refine pv_enter [some (.ref (40 + 1)), some (.int (nI (n))), none] (by decide) (fun _ => rfl) (fun _ => Nat.le_of_ble_eq_true rfl) ?_
  refine pv_aload_n d_Y_reach_0 rfl rfl ?_
  refine pv_iload_n d_Y_reach_1 rfl rfl ?_
  refine pv_callV1I d_Y_reach_2 (k_Y_refuse_up hξ hn hb hu ?_) sb_Y_refuse wm_Y_91 (gy_Y (by first | assumption | omega)) rfl ⟨wi_Y_refuse, we_Y_refuse⟩ (by decide) (by decide) (Nat.le_of_ble_eq_true rfl) (by decide) (by decide)
  refine pv_ist2 d_Y_reach_5 rfl (by decide) ?_
  refine pv_iload_n d_Y_reach_6 rfl rfl ?_
  first | refine pv_ifN_eq 14 (by decide) d_Y_reach_7 (by first | assumption | omega | exact Nat.lt_of_le_of_lt Nat.and_le_right (by decide)) (fun h7 => ?_) (fun h7 => ?_) | refine pv_if_eq 14 (by decide) d_Y_reach_7 (fun h7 => ?_) (fun h7 => ?_)
  · refine pv_aload_n d_Y_reach_14 rfl rfl ?_
    refine pv_iload_n d_Y_reach_15 rfl rfl ?_
    refine pv_callV1I d_Y_reach_16 (k_Y_reachOf hξ hn hb ?_) sb_Y_reachOf wm_Y_119 (gy_Y (by first | assumption | omega)) rfl ⟨wi_Y_reachOf, we_Y_reachOf⟩ (by decide) (by decide) (Nat.le_of_ble_eq_true rfl) (by decide) (by decide)
    refine pv_iret d_Y_reach_19 ?_
    exact k
  · refine pv_iload_n d_Y_reach_10 rfl rfl ?_
    refine pv_goto 19 (by decide) d_Y_reach_11 ?_
    refine pv_iret d_Y_reach_19 ?_
    exact absurd rfl h7

set_option maxRecDepth 100000 in
set_option maxHeartbeats 4000000 in
theorem k_Y_line_no {post : Int32 → List va_E → Prop} (hξ : ξ.length = 40) {x : Int32} (h : x < 0 ∨ nI 4 < x) (k : post (-3) (ξ ++ memY τ)) : pv_M l D ty base b 2 0 0 (fun _ => True) y_Y_line c_Y_line 3 (some .int) [.ref (40 + 1), .int x] (ξ ++ memY τ) (pv_QI D ty base b post) := by
  refine pv_enter [some (.ref (40 + 1)), some (.int x), none] (by decide) (fun _ => rfl) (fun _ => Nat.le_of_ble_eq_true rfl) ?_
  refine pv_aload_n d_Y_line_0 rfl rfl ?_
  refine pv_iload_n d_Y_line_1 rfl rfl ?_
  refine pv_callV1I d_Y_line_2 (k_Y_refuse_no hξ h ?_) sb_Y_refuse wm_Y_91 (gy_Y (by first | assumption | omega)) rfl ⟨wi_Y_refuse, we_Y_refuse⟩ (by decide) (by decide) (Nat.le_of_ble_eq_true rfl) (by decide) (by decide)
  refine pv_ist2 d_Y_line_5 rfl (by decide) ?_
  refine pv_iload_n d_Y_line_6 rfl rfl ?_
  first | refine pv_ifN_eq 14 (by decide) d_Y_line_7 (by first | assumption | omega | exact Nat.lt_of_le_of_lt Nat.and_le_right (by decide)) (fun h7 => ?_) (fun h7 => ?_) | refine pv_if_eq 14 (by decide) d_Y_line_7 (fun h7 => ?_) (fun h7 => ?_)
  · exact absurd h7 (by decide)
  · refine pv_iload_n d_Y_line_10 rfl rfl ?_
    refine pv_goto 20 (by decide) d_Y_line_11 ?_
    refine pv_iret d_Y_line_20 ?_
    exact k

set_option maxRecDepth 100000 in
set_option maxHeartbeats 4000000 in
theorem k_Y_line_dn {post : Int32 → List va_E → Prop} (hξ : ξ.length = 40) {n : Nat} (hn : n < 5) (hb : bY τ) (hu : τ 0 n = 0) (k : post (-2) (ξ ++ memY τ)) : pv_M l D ty base b 2 0 0 (fun _ => True) y_Y_line c_Y_line 3 (some .int) [.ref (40 + 1), .int (nI (n))] (ξ ++ memY τ) (pv_QI D ty base b post) := by
  refine pv_enter [some (.ref (40 + 1)), some (.int (nI (n))), none] (by decide) (fun _ => rfl) (fun _ => Nat.le_of_ble_eq_true rfl) ?_
  refine pv_aload_n d_Y_line_0 rfl rfl ?_
  refine pv_iload_n d_Y_line_1 rfl rfl ?_
  refine pv_callV1I d_Y_line_2 (k_Y_refuse_dn hξ hn hb hu ?_) sb_Y_refuse wm_Y_91 (gy_Y (by first | assumption | omega)) rfl ⟨wi_Y_refuse, we_Y_refuse⟩ (by decide) (by decide) (Nat.le_of_ble_eq_true rfl) (by decide) (by decide)
  refine pv_ist2 d_Y_line_5 rfl (by decide) ?_
  refine pv_iload_n d_Y_line_6 rfl rfl ?_
  first | refine pv_ifN_eq 14 (by decide) d_Y_line_7 (by first | assumption | omega | exact Nat.lt_of_le_of_lt Nat.and_le_right (by decide)) (fun h7 => ?_) (fun h7 => ?_) | refine pv_if_eq 14 (by decide) d_Y_line_7 (fun h7 => ?_) (fun h7 => ?_)
  · exact absurd h7 (by decide)
  · refine pv_iload_n d_Y_line_10 rfl rfl ?_
    refine pv_goto 20 (by decide) d_Y_line_11 ?_
    refine pv_iret d_Y_line_20 ?_
    exact k

set_option maxRecDepth 100000 in
set_option maxHeartbeats 4000000 in
theorem k_Y_line_up {post : Int32 → List va_E → Prop} (hξ : ξ.length = 40) {n : Nat} (hn : n < 5) (hb : bY τ) (hu : τ 0 n ≠ 0) (k : post (nI (τ 3 n)) (ξ ++ memY τ)) : pv_M l D ty base b 2 0 0 (fun _ => True) y_Y_line c_Y_line 3 (some .int) [.ref (40 + 1), .int (nI (n))] (ξ ++ memY τ) (pv_QI D ty base b post) := by
  refine pv_enter [some (.ref (40 + 1)), some (.int (nI (n))), none] (by decide) (fun _ => rfl) (fun _ => Nat.le_of_ble_eq_true rfl) ?_
  refine pv_aload_n d_Y_line_0 rfl rfl ?_
  refine pv_iload_n d_Y_line_1 rfl rfl ?_
  refine pv_callV1I d_Y_line_2 (k_Y_refuse_up hξ hn hb hu ?_) sb_Y_refuse wm_Y_91 (gy_Y (by first | assumption | omega)) rfl ⟨wi_Y_refuse, we_Y_refuse⟩ (by decide) (by decide) (Nat.le_of_ble_eq_true rfl) (by decide) (by decide)
  refine pv_ist2 d_Y_line_5 rfl (by decide) ?_
  refine pv_iload_n d_Y_line_6 rfl rfl ?_
  first | refine pv_ifN_eq 14 (by decide) d_Y_line_7 (by first | assumption | omega | exact Nat.lt_of_le_of_lt Nat.and_le_right (by decide)) (fun h7 => ?_) (fun h7 => ?_) | refine pv_if_eq 14 (by decide) d_Y_line_7 (fun h7 => ?_) (fun h7 => ?_)
  · refine pv_aload_n d_Y_line_14 rfl rfl ?_
    refine gY_lineOf d_Y_line_15 ff_Y_20 (by first | assumption | omega) ?_
    refine pv_iload_n d_Y_line_18 rfl rfl ?_
    refine ly_lineOf d_Y_line_19 (by first | assumption | omega) (by first | assumption | omega) ?_
    refine pv_iret d_Y_line_20 ?_
    exact k
  · refine pv_iload_n d_Y_line_10 rfl rfl ?_
    refine pv_goto 20 (by decide) d_Y_line_11 ?_
    refine pv_iret d_Y_line_20 ?_
    exact absurd rfl h7

set_option maxRecDepth 100000 in
set_option maxHeartbeats 4000000 in
theorem k_Y_waiting_no {post : Int32 → List va_E → Prop} (hξ : ξ.length = 40) {x : Int32} (h : x < 0 ∨ nI 4 < x) (k : post (-3) (ξ ++ memY τ)) : pv_M l D ty base b 2 0 0 (fun _ => True) y_Y_waiting c_Y_waiting 3 (some .int) [.ref (40 + 1), .int x] (ξ ++ memY τ) (pv_QI D ty base b post) := by
  refine pv_enter [some (.ref (40 + 1)), some (.int x), none] (by decide) (fun _ => rfl) (fun _ => Nat.le_of_ble_eq_true rfl) ?_
  refine pv_aload_n d_Y_waiting_0 rfl rfl ?_
  refine pv_iload_n d_Y_waiting_1 rfl rfl ?_
  refine pv_callV1I d_Y_waiting_2 (k_Y_refuse_no hξ h ?_) sb_Y_refuse wm_Y_91 (gy_Y (by first | assumption | omega)) rfl ⟨wi_Y_refuse, we_Y_refuse⟩ (by decide) (by decide) (Nat.le_of_ble_eq_true rfl) (by decide) (by decide)
  refine pv_ist2 d_Y_waiting_5 rfl (by decide) ?_
  refine pv_iload_n d_Y_waiting_6 rfl rfl ?_
  first | refine pv_ifN_eq 14 (by decide) d_Y_waiting_7 (by first | assumption | omega | exact Nat.lt_of_le_of_lt Nat.and_le_right (by decide)) (fun h7 => ?_) (fun h7 => ?_) | refine pv_if_eq 14 (by decide) d_Y_waiting_7 (fun h7 => ?_) (fun h7 => ?_)
  · exact absurd h7 (by decide)
  · refine pv_iload_n d_Y_waiting_10 rfl rfl ?_
    refine pv_goto 19 (by decide) d_Y_waiting_11 ?_
    refine pv_iret d_Y_waiting_19 ?_
    exact k

set_option maxRecDepth 100000 in
set_option maxHeartbeats 4000000 in
theorem k_Y_waiting_dn {post : Int32 → List va_E → Prop} (hξ : ξ.length = 40) {n : Nat} (hn : n < 5) (hb : bY τ) (hu : τ 0 n = 0) (k : post (-2) (ξ ++ memY τ)) : pv_M l D ty base b 2 0 0 (fun _ => True) y_Y_waiting c_Y_waiting 3 (some .int) [.ref (40 + 1), .int (nI (n))] (ξ ++ memY τ) (pv_QI D ty base b post) := by
  refine pv_enter [some (.ref (40 + 1)), some (.int (nI (n))), none] (by decide) (fun _ => rfl) (fun _ => Nat.le_of_ble_eq_true rfl) ?_
  refine pv_aload_n d_Y_waiting_0 rfl rfl ?_
  refine pv_iload_n d_Y_waiting_1 rfl rfl ?_
  refine pv_callV1I d_Y_waiting_2 (k_Y_refuse_dn hξ hn hb hu ?_) sb_Y_refuse wm_Y_91 (gy_Y (by first | assumption | omega)) rfl ⟨wi_Y_refuse, we_Y_refuse⟩ (by decide) (by decide) (Nat.le_of_ble_eq_true rfl) (by decide) (by decide)
  refine pv_ist2 d_Y_waiting_5 rfl (by decide) ?_
  refine pv_iload_n d_Y_waiting_6 rfl rfl ?_
  first | refine pv_ifN_eq 14 (by decide) d_Y_waiting_7 (by first | assumption | omega | exact Nat.lt_of_le_of_lt Nat.and_le_right (by decide)) (fun h7 => ?_) (fun h7 => ?_) | refine pv_if_eq 14 (by decide) d_Y_waiting_7 (fun h7 => ?_) (fun h7 => ?_)
  · exact absurd h7 (by decide)
  · refine pv_iload_n d_Y_waiting_10 rfl rfl ?_
    refine pv_goto 19 (by decide) d_Y_waiting_11 ?_
    refine pv_iret d_Y_waiting_19 ?_
    exact k

set_option maxRecDepth 100000 in
set_option maxHeartbeats 4000000 in
theorem k_Y_waiting_up {post : Int32 → List va_E → Prop} (hξ : ξ.length = 40) {n : Nat} (hn : n < 5) (hb : bY τ) (hu : τ 0 n ≠ 0) (k : post (nI (y_qd τ n (τ 10 0))) (ξ ++ memY τ)) : pv_M l D ty base b 2 0 0 (fun _ => True) y_Y_waiting c_Y_waiting 3 (some .int) [.ref (40 + 1), .int (nI (n))] (ξ ++ memY τ) (pv_QI D ty base b post) := by
  refine pv_enter [some (.ref (40 + 1)), some (.int (nI (n))), none] (by decide) (fun _ => rfl) (fun _ => Nat.le_of_ble_eq_true rfl) ?_
  refine pv_aload_n d_Y_waiting_0 rfl rfl ?_
  refine pv_iload_n d_Y_waiting_1 rfl rfl ?_
  refine pv_callV1I d_Y_waiting_2 (k_Y_refuse_up hξ hn hb hu ?_) sb_Y_refuse wm_Y_91 (gy_Y (by first | assumption | omega)) rfl ⟨wi_Y_refuse, we_Y_refuse⟩ (by decide) (by decide) (Nat.le_of_ble_eq_true rfl) (by decide) (by decide)
  refine pv_ist2 d_Y_waiting_5 rfl (by decide) ?_
  refine pv_iload_n d_Y_waiting_6 rfl rfl ?_
  first | refine pv_ifN_eq 14 (by decide) d_Y_waiting_7 (by first | assumption | omega | exact Nat.lt_of_le_of_lt Nat.and_le_right (by decide)) (fun h7 => ?_) (fun h7 => ?_) | refine pv_if_eq 14 (by decide) d_Y_waiting_7 (fun h7 => ?_) (fun h7 => ?_)
  · refine pv_aload_n d_Y_waiting_14 rfl rfl ?_
    refine pv_iload_n d_Y_waiting_15 rfl rfl ?_
    refine pv_callV1I d_Y_waiting_16 (k_Y_queued hξ hn hb ?_) sb_Y_queued wm_Y_95 (gy_Y (by first | assumption | omega)) rfl ⟨wi_Y_queued, we_Y_queued⟩ (by decide) (by decide) (Nat.le_of_ble_eq_true rfl) (by decide) (by decide)
    refine pv_iret d_Y_waiting_19 ?_
    exact k
  · refine pv_iload_n d_Y_waiting_10 rfl rfl ?_
    refine pv_goto 19 (by decide) d_Y_waiting_11 ?_
    refine pv_iret d_Y_waiting_19 ?_
    exact absurd rfl h7

set_option maxRecDepth 100000 in
set_option maxHeartbeats 4000000 in
theorem k_Y_requests_no {post : Int32 → List va_E → Prop} (hξ : ξ.length = 40) {x : Int32} (h : x < 0 ∨ nI 4 < x) (k : post (-3) (ξ ++ memY τ)) : pv_M l D ty base b 2 0 0 (fun _ => True) y_Y_requests c_Y_requests 6 (some .int) [.ref (40 + 1), .int x] (ξ ++ memY τ) (pv_QI D ty base b post) := by
  refine pv_enter [some (.ref (40 + 1)), some (.int x), none, none, none, none] (by decide) (fun _ => rfl) (fun _ => Nat.le_of_ble_eq_true rfl) ?_
  refine pv_aload_n d_Y_requests_0 rfl rfl ?_
  refine pv_iload_n d_Y_requests_1 rfl rfl ?_
  refine pv_callV1I d_Y_requests_2 (k_Y_refuse_no hξ h ?_) sb_Y_refuse wm_Y_91 (gy_Y (by first | assumption | omega)) rfl ⟨wi_Y_refuse, we_Y_refuse⟩ (by decide) (by decide) (Nat.le_of_ble_eq_true rfl) (by decide) (by decide)
  refine pv_ist2 d_Y_requests_5 rfl (by decide) ?_
  refine pv_iload_n d_Y_requests_6 rfl rfl ?_
  first | refine pv_ifN_eq 12 (by decide) d_Y_requests_7 (by first | assumption | omega | exact Nat.lt_of_le_of_lt Nat.and_le_right (by decide)) (fun h7 => ?_) (fun h7 => ?_) | refine pv_if_eq 12 (by decide) d_Y_requests_7 (fun h7 => ?_) (fun h7 => ?_)
  · exact absurd h7 (by decide)
  · refine pv_iload_n d_Y_requests_10 rfl rfl ?_
    refine pv_iret d_Y_requests_11 ?_
    exact k

set_option maxRecDepth 100000 in
set_option maxHeartbeats 4000000 in
theorem k_Y_requests_dn {post : Int32 → List va_E → Prop} (hξ : ξ.length = 40) {n : Nat} (hn : n < 5) (hb : bY τ) (hu : τ 0 n = 0) (k : post (-2) (ξ ++ memY τ)) : pv_M l D ty base b 2 0 0 (fun _ => True) y_Y_requests c_Y_requests 6 (some .int) [.ref (40 + 1), .int (nI (n))] (ξ ++ memY τ) (pv_QI D ty base b post) := by
  refine pv_enter [some (.ref (40 + 1)), some (.int (nI (n))), none, none, none, none] (by decide) (fun _ => rfl) (fun _ => Nat.le_of_ble_eq_true rfl) ?_
  refine pv_aload_n d_Y_requests_0 rfl rfl ?_
  refine pv_iload_n d_Y_requests_1 rfl rfl ?_
  refine pv_callV1I d_Y_requests_2 (k_Y_refuse_dn hξ hn hb hu ?_) sb_Y_refuse wm_Y_91 (gy_Y (by first | assumption | omega)) rfl ⟨wi_Y_refuse, we_Y_refuse⟩ (by decide) (by decide) (Nat.le_of_ble_eq_true rfl) (by decide) (by decide)
  refine pv_ist2 d_Y_requests_5 rfl (by decide) ?_
  refine pv_iload_n d_Y_requests_6 rfl rfl ?_
  first | refine pv_ifN_eq 12 (by decide) d_Y_requests_7 (by first | assumption | omega | exact Nat.lt_of_le_of_lt Nat.and_le_right (by decide)) (fun h7 => ?_) (fun h7 => ?_) | refine pv_if_eq 12 (by decide) d_Y_requests_7 (fun h7 => ?_) (fun h7 => ?_)
  · exact absurd h7 (by decide)
  · refine pv_iload_n d_Y_requests_10 rfl rfl ?_
    refine pv_iret d_Y_requests_11 ?_
    exact k

set_option maxRecDepth 100000 in
set_option maxHeartbeats 4000000 in
theorem k_Y_requests_up {post : Int32 → List va_E → Prop} (hξ : ξ.length = 40) {n : Nat} (hn : n < 5) (hb : bY τ) (hu : τ 0 n ≠ 0) (k : post (if τ 17 (τ 2 n) = 0 then -1 else nI (y_cnt (τ 21 (τ 2 n)) 48)) (ξ ++ memY τ)) : pv_M l D ty base b 2 0 0 (fun _ => True) y_Y_requests c_Y_requests 6 (some .int) [.ref (40 + 1), .int (nI (n))] (ξ ++ memY τ) (pv_QI D ty base b post) := by
  refine pv_enter [some (.ref (40 + 1)), some (.int (nI (n))), none, none, none, none] (by decide) (fun _ => rfl) (fun _ => Nat.le_of_ble_eq_true rfl) ?_
  have q2 : τ 2 n < 520 := hb 2 n
  have q21 : τ 21 (τ 2 n) < 2 ^ 49 := hb 21 _
  have loop : ∀ (j i : Nat), i + j = 48 → pv_V l D ty base b c_Y_requests 6 y_Y_requests.cls (some .int) y_Y_requests.name (pv_rm 2 0 0) (fun _ => True) (pv_Qf base 0 0 (pv_QI D ty base b post)) 0 0 25 [some (.ref (40 + 1)), some (.int (nI (n))), some (.int (nI (0))), some (.int (nI (τ 2 n))), some (.int (nI (y_cnt (τ 21 (τ 2 n)) i))), some (.int (nI (i + 1)))] [] (ξ ++ memY τ) := by
    intro j
    induction j with
    | zero =>
      intro i hi
      refine pv_iload d_Y_requests_25 rfl ?_
      refine pv_bipush d_Y_requests_27 (nI 48) (by decide) ?_
      first | refine pv_icmpN_gt 55 (by decide) d_Y_requests_29 (by first | assumption | omega | exact Nat.lt_of_le_of_lt Nat.and_le_right (by decide)) (by first | assumption | omega | exact Nat.lt_of_le_of_lt Nat.and_le_right (by decide)) (fun h29 => ?_) (fun h29 => ?_) | refine pv_icmp_gt 55 (by decide) d_Y_requests_29 (fun h29 => ?_) (fun h29 => ?_)
      · refine pv_aload_n d_Y_requests_55 rfl rfl ?_
        refine gY_at d_Y_requests_56 ff_Y_56 (by first | assumption | omega) ?_
        refine pv_iload_n d_Y_requests_59 rfl rfl ?_
        refine ly_at d_Y_requests_60 (by first | assumption | omega) (by first | assumption | omega) ?_
        refine pv_iconst d_Y_requests_61 (-1) (by decide) ?_
        first | refine pv_icmpN_ne 69 (by decide) d_Y_requests_62 (by first | assumption | omega | exact Nat.lt_of_le_of_lt Nat.and_le_right (by decide)) (by first | assumption | omega | exact Nat.lt_of_le_of_lt Nat.and_le_right (by decide)) (fun h62 => ?_) (fun h62 => ?_) | refine pv_icmp_ne 69 (by decide) d_Y_requests_62 (fun h62 => ?_) (fun h62 => ?_)
        · refine pv_iload d_Y_requests_69 rfl ?_
          refine pv_iret d_Y_requests_71 ?_
          rw [if_neg (mt (tk_m1 (Nat.lt_of_lt_of_le (hb 17 (τ 2 n)) (by decide))).mpr h62)] at k
          obtain rfl : i = 48 := by omega
          exact k
        · refine pv_iconst d_Y_requests_65 (-1) (by decide) ?_
          refine pv_goto 71 (by decide) d_Y_requests_66 ?_
          refine pv_iret d_Y_requests_71 ?_
          rw [if_pos ((tk_m1 (Nat.lt_of_lt_of_le (hb 17 (τ 2 n)) (by decide))).mp h62)] at k
          exact k
      · omega
    | succ j ih =>
      intro i hi
      refine pv_iload d_Y_requests_25 rfl ?_
      refine pv_bipush d_Y_requests_27 (nI 48) (by decide) ?_
      first | refine pv_icmpN_gt 55 (by decide) d_Y_requests_29 (by first | assumption | omega | exact Nat.lt_of_le_of_lt Nat.and_le_right (by decide)) (by first | assumption | omega | exact Nat.lt_of_le_of_lt Nat.and_le_right (by decide)) (fun h29 => ?_) (fun h29 => ?_) | refine pv_icmp_gt 55 (by decide) d_Y_requests_29 (fun h29 => ?_) (fun h29 => ?_)
      · omega
      · refine pv_iload d_Y_requests_32 rfl ?_
        refine pv_aload_n d_Y_requests_34 rfl rfl ?_
        refine gY_wanted d_Y_requests_35 ff_Y_68 (by first | assumption | omega) ?_
        refine pv_iload_n d_Y_requests_38 rfl rfl ?_
        refine ly_wanted d_Y_requests_39 (by first | assumption | omega) (by first | assumption | omega) ?_
        refine pv_iload d_Y_requests_40 rfl ?_
        refine pv_lshrN d_Y_requests_42 (by first | assumption | omega) (by first | assumption | omega) ?_
        refine pv_lconst d_Y_requests_43 (lN 1) (by decide) ?_
        first | refine pv_landN d_Y_requests_44 ?_ | refine pv_landC d_Y_requests_44 ?_
        refine pv_l2iN d_Y_requests_45 ?_
        first | refine pv_iaddN d_Y_requests_46 ?_ | refine pv_iadd d_Y_requests_46 ?_
        refine pv_ist4 d_Y_requests_47 rfl (by decide) ?_
        refine pv_inc5 d_Y_requests_49 rfl (by decide) ?_
        refine pv_goto 25 (by decide) d_Y_requests_52 ?_
        have hz := ih (i + 1) (by omega)
        rw [y_cnt_s, show b2 ((τ 21 (τ 2 n)).testBit (i + 1)) = τ 21 (τ 2 n) / 2 ^ (i + 1) &&& 1 from tb_div0.symm] at hz
        exact hz
  refine pv_aload_n d_Y_requests_0 rfl rfl ?_
  refine pv_iload_n d_Y_requests_1 rfl rfl ?_
  refine pv_callV1I d_Y_requests_2 (k_Y_refuse_up hξ hn hb hu ?_) sb_Y_refuse wm_Y_91 (gy_Y (by first | assumption | omega)) rfl ⟨wi_Y_refuse, we_Y_refuse⟩ (by decide) (by decide) (Nat.le_of_ble_eq_true rfl) (by decide) (by decide)
  refine pv_ist2 d_Y_requests_5 rfl (by decide) ?_
  refine pv_iload_n d_Y_requests_6 rfl rfl ?_
  first | refine pv_ifN_eq 12 (by decide) d_Y_requests_7 (by first | assumption | omega | exact Nat.lt_of_le_of_lt Nat.and_le_right (by decide)) (fun h7 => ?_) (fun h7 => ?_) | refine pv_if_eq 12 (by decide) d_Y_requests_7 (fun h7 => ?_) (fun h7 => ?_)
  · refine pv_aload_n d_Y_requests_12 rfl rfl ?_
    refine gY_ringOf d_Y_requests_13 ff_Y_17 (by first | assumption | omega) ?_
    refine pv_iload_n d_Y_requests_16 rfl rfl ?_
    refine ly_ringOf d_Y_requests_17 (by first | assumption | omega) (by first | assumption | omega) ?_
    refine pv_ist3 d_Y_requests_18 rfl (by decide) ?_
    refine pv_iconst d_Y_requests_19 (nI 0) (by decide) ?_
    refine pv_ist4 d_Y_requests_20 rfl (by decide) ?_
    refine pv_iconst d_Y_requests_22 (nI 1) (by decide) ?_
    refine pv_ist5 d_Y_requests_23 rfl (by decide) ?_
    exact loop 48 0 rfl
  · refine pv_iload_n d_Y_requests_10 rfl rfl ?_
    refine pv_iret d_Y_requests_11 ?_
    exact absurd rfl h7

set_option maxRecDepth 100000 in
set_option maxHeartbeats 4000000 in
theorem k_Y_drop_no {post : Int32 → List va_E → Prop} (hξ : ξ.length = 40) {x : Int32} (h : x < 0 ∨ nI 4 < x) (k : post (nI 0) (ξ ++ memY τ)) : pv_M l D ty base b 2 0 0 (fun _ => True) y_Y_drop c_Y_drop 2 (some .boolean) [.ref (40 + 1), .int x] (ξ ++ memY τ) (pv_QI D ty base b post) := by
  refine pv_enter [some (.ref (40 + 1)), some (.int x)] (by decide) (fun _ => rfl) (fun _ => Nat.le_of_ble_eq_true rfl) ?_
  refine pv_aload_n d_Y_drop_0 rfl rfl ?_
  refine pv_iload_n d_Y_drop_1 rfl rfl ?_
  refine pv_callV1I d_Y_drop_2 (k_Y_refuse_no hξ h ?_) sb_Y_refuse wm_Y_91 (gy_Y (by first | assumption | omega)) rfl ⟨wi_Y_refuse, we_Y_refuse⟩ (by decide) (by decide) (Nat.le_of_ble_eq_true rfl) (by decide) (by decide)
  first | refine pv_ifN_ne 23 (by decide) d_Y_drop_5 (by first | assumption | omega | exact Nat.lt_of_le_of_lt Nat.and_le_right (by decide)) (fun h5 => ?_) (fun h5 => ?_) | refine pv_if_ne 23 (by decide) d_Y_drop_5 (fun h5 => ?_) (fun h5 => ?_)
  · refine pv_iconst d_Y_drop_23 (nI 0) (by decide) ?_
    refine pv_zret d_Y_drop_24 (by first | rfl | decide) ?_
    exact k
  · exact absurd h5 (by decide)

set_option maxRecDepth 100000 in
set_option maxHeartbeats 4000000 in
theorem k_Y_drop_dn {post : Int32 → List va_E → Prop} (hξ : ξ.length = 40) {n : Nat} (hn : n < 5) (hb : bY τ) (hu : τ 0 n = 0) (k : post (nI 0) (ξ ++ memY τ)) : pv_M l D ty base b 2 0 0 (fun _ => True) y_Y_drop c_Y_drop 2 (some .boolean) [.ref (40 + 1), .int (nI (n))] (ξ ++ memY τ) (pv_QI D ty base b post) := by
  refine pv_enter [some (.ref (40 + 1)), some (.int (nI (n)))] (by decide) (fun _ => rfl) (fun _ => Nat.le_of_ble_eq_true rfl) ?_
  refine pv_aload_n d_Y_drop_0 rfl rfl ?_
  refine pv_iload_n d_Y_drop_1 rfl rfl ?_
  refine pv_callV1I d_Y_drop_2 (k_Y_refuse_dn hξ hn hb hu ?_) sb_Y_refuse wm_Y_91 (gy_Y (by first | assumption | omega)) rfl ⟨wi_Y_refuse, we_Y_refuse⟩ (by decide) (by decide) (Nat.le_of_ble_eq_true rfl) (by decide) (by decide)
  first | refine pv_ifN_ne 23 (by decide) d_Y_drop_5 (by first | assumption | omega | exact Nat.lt_of_le_of_lt Nat.and_le_right (by decide)) (fun h5 => ?_) (fun h5 => ?_) | refine pv_if_ne 23 (by decide) d_Y_drop_5 (fun h5 => ?_) (fun h5 => ?_)
  · refine pv_iconst d_Y_drop_23 (nI 0) (by decide) ?_
    refine pv_zret d_Y_drop_24 (by first | rfl | decide) ?_
    exact k
  · exact absurd h5 (by decide)

set_option maxRecDepth 100000 in
set_option maxHeartbeats 4000000 in
theorem k_Y_drop_up {post : Int32 → List va_E → Prop} (hξ : ξ.length = 40) {n : Nat} (hn : n < 5) (hb : bY τ) (hu : τ 0 n ≠ 0) (k : post (b_drop τ n).1 (ξ ++ memY (b_drop τ n).2)) : pv_M l D ty base b 2 0 0 (fun _ => True) y_Y_drop c_Y_drop 2 (some .boolean) [.ref (40 + 1), .int (nI (n))] (ξ ++ memY τ) (pv_QI D ty base b post) := by
  refine pv_enter [some (.ref (40 + 1)), some (.int (nI (n)))] (by decide) (fun _ => rfl) (fun _ => Nat.le_of_ble_eq_true rfl) ?_
  refine pv_aload_n d_Y_drop_0 rfl rfl ?_
  refine pv_iload_n d_Y_drop_1 rfl rfl ?_
  refine pv_callV1I d_Y_drop_2 (k_Y_refuse_up hξ hn hb hu ?_) sb_Y_refuse wm_Y_91 (gy_Y (by first | assumption | omega)) rfl ⟨wi_Y_refuse, we_Y_refuse⟩ (by decide) (by decide) (Nat.le_of_ble_eq_true rfl) (by decide) (by decide)
  first | refine pv_ifN_ne 23 (by decide) d_Y_drop_5 (by first | assumption | omega | exact Nat.lt_of_le_of_lt Nat.and_le_right (by decide)) (fun h5 => ?_) (fun h5 => ?_) | refine pv_if_ne 23 (by decide) d_Y_drop_5 (fun h5 => ?_) (fun h5 => ?_)
  · refine pv_iconst d_Y_drop_23 (nI 0) (by decide) ?_
    refine pv_zret d_Y_drop_24 (by first | rfl | decide) ?_
    exact absurd rfl h5
  · have q2 : τ 2 n < 520 := hb 2 n
    refine pv_aload_n d_Y_drop_8 rfl rfl ?_
    refine gY_at d_Y_drop_9 ff_Y_56 (by first | assumption | omega) ?_
    refine pv_aload_n d_Y_drop_12 rfl rfl ?_
    refine gY_ringOf d_Y_drop_13 ff_Y_17 (by first | assumption | omega) ?_
    refine pv_iload_n d_Y_drop_16 rfl rfl ?_
    refine ly_ringOf d_Y_drop_17 (by first | assumption | omega) (by first | assumption | omega) ?_
    refine ly_at d_Y_drop_18 (by first | assumption | omega) (by first | assumption | omega) ?_
    refine pv_iconst d_Y_drop_19 (-1) (by decide) ?_
    first | refine pv_icmpN_ne 25 (by decide) d_Y_drop_20 (by first | assumption | omega | exact Nat.lt_of_le_of_lt Nat.and_le_right (by decide)) (by first | assumption | omega | exact Nat.lt_of_le_of_lt Nat.and_le_right (by decide)) (fun h20 => ?_) (fun h20 => ?_) | refine pv_icmp_ne 25 (by decide) d_Y_drop_20 (fun h20 => ?_) (fun h20 => ?_)
    · refine pv_aload_n d_Y_drop_25 rfl rfl ?_
      refine gY_at d_Y_drop_26 ff_Y_56 (by first | assumption | omega) ?_
      refine pv_aload_n d_Y_drop_29 rfl rfl ?_
      refine gY_ringOf d_Y_drop_30 ff_Y_17 (by first | assumption | omega) ?_
      refine pv_iload_n d_Y_drop_33 rfl rfl ?_
      refine ly_ringOf d_Y_drop_34 (by first | assumption | omega) (by first | assumption | omega) ?_
      refine pv_iconst d_Y_drop_35 (-1) (by decide) ?_
      refine sy_atM d_Y_drop_36 (by first | assumption | omega) (by first | assumption | omega) ?_
      refine pv_iconst d_Y_drop_37 (nI 1) (by decide) ?_
      refine pv_zret d_Y_drop_38 (by first | rfl | decide) ?_
      rw [b_drop, if_neg hu, if_neg (mt (tk_m1 (Nat.lt_of_lt_of_le (hb 17 (τ 2 n)) (by decide))).mpr h20)] at k
      exact k
    · refine pv_iconst d_Y_drop_23 (nI 0) (by decide) ?_
      refine pv_zret d_Y_drop_24 (by first | rfl | decide) ?_
      rw [b_drop, if_neg hu, if_pos ((tk_m1 (Nat.lt_of_lt_of_le (hb 17 (τ 2 n)) (by decide))).mp h20)] at k
      exact k

set_option maxRecDepth 100000 in
set_option maxHeartbeats 4000000 in
theorem k_Y_send_no {post : Int32 → List va_E → Prop} (hξ : ξ.length = 40) {x : Int32} (h : x < 0 ∨ nI 4 < x) {s : Nat} (k : post (-3) (ξ ++ memY τ)) : pv_M l D ty base b 2 0 0 (fun _ => True) y_Y_send c_Y_send 4 (some .int) [.ref (40 + 1), .int x, .int (nI s)] (ξ ++ memY τ) (pv_QI D ty base b post) := by
  refine pv_enter [some (.ref (40 + 1)), some (.int x), some (.int (nI s)), none] (by decide) (fun _ => rfl) (fun _ => Nat.le_of_ble_eq_true rfl) ?_
  refine pv_aload_n d_Y_send_0 rfl rfl ?_
  refine pv_iload_n d_Y_send_1 rfl rfl ?_
  refine pv_callV1I d_Y_send_2 (k_Y_refuse_no hξ h ?_) sb_Y_refuse wm_Y_91 (gy_Y (by first | assumption | omega)) rfl ⟨wi_Y_refuse, we_Y_refuse⟩ (by decide) (by decide) (Nat.le_of_ble_eq_true rfl) (by decide) (by decide)
  refine pv_ist3 d_Y_send_5 rfl (by decide) ?_
  refine pv_iload_n d_Y_send_6 rfl rfl ?_
  first | refine pv_ifN_eq 12 (by decide) d_Y_send_7 (by first | assumption | omega | exact Nat.lt_of_le_of_lt Nat.and_le_right (by decide)) (fun h7 => ?_) (fun h7 => ?_) | refine pv_if_eq 12 (by decide) d_Y_send_7 (fun h7 => ?_) (fun h7 => ?_)
  · exact absurd h7 (by decide)
  · refine pv_iload_n d_Y_send_10 rfl rfl ?_
    refine pv_iret d_Y_send_11 ?_
    exact k

set_option maxRecDepth 100000 in
set_option maxHeartbeats 4000000 in
theorem k_Y_send_dn {post : Int32 → List va_E → Prop} (hξ : ξ.length = 40) {n : Nat} (hn : n < 5) (hb : bY τ) (hu : τ 0 n = 0) {s : Nat} (k : post (-2) (ξ ++ memY τ)) : pv_M l D ty base b 2 0 0 (fun _ => True) y_Y_send c_Y_send 4 (some .int) [.ref (40 + 1), .int (nI (n)), .int (nI s)] (ξ ++ memY τ) (pv_QI D ty base b post) := by
  refine pv_enter [some (.ref (40 + 1)), some (.int (nI (n))), some (.int (nI s)), none] (by decide) (fun _ => rfl) (fun _ => Nat.le_of_ble_eq_true rfl) ?_
  refine pv_aload_n d_Y_send_0 rfl rfl ?_
  refine pv_iload_n d_Y_send_1 rfl rfl ?_
  refine pv_callV1I d_Y_send_2 (k_Y_refuse_dn hξ hn hb hu ?_) sb_Y_refuse wm_Y_91 (gy_Y (by first | assumption | omega)) rfl ⟨wi_Y_refuse, we_Y_refuse⟩ (by decide) (by decide) (Nat.le_of_ble_eq_true rfl) (by decide) (by decide)
  refine pv_ist3 d_Y_send_5 rfl (by decide) ?_
  refine pv_iload_n d_Y_send_6 rfl rfl ?_
  first | refine pv_ifN_eq 12 (by decide) d_Y_send_7 (by first | assumption | omega | exact Nat.lt_of_le_of_lt Nat.and_le_right (by decide)) (fun h7 => ?_) (fun h7 => ?_) | refine pv_if_eq 12 (by decide) d_Y_send_7 (fun h7 => ?_) (fun h7 => ?_)
  · exact absurd h7 (by decide)
  · refine pv_iload_n d_Y_send_10 rfl rfl ?_
    refine pv_iret d_Y_send_11 ?_
    exact k

set_option maxRecDepth 100000 in
set_option maxHeartbeats 4000000 in
theorem k_Y_send_up {post : Int32 → List va_E → Prop} (hξ : ξ.length = 40) {n : Nat} (hn : n < 5) (hb : bY τ) (hu : τ 0 n ≠ 0) {s : Nat} (hs : s ≤ 1) (k : post (b_send τ n s).1 (ξ ++ memY (b_send τ n s).2)) : pv_M l D ty base b 2 0 0 (fun _ => True) y_Y_send c_Y_send 4 (some .int) [.ref (40 + 1), .int (nI (n)), .int (nI s)] (ξ ++ memY τ) (pv_QI D ty base b post) := by
  refine pv_enter [some (.ref (40 + 1)), some (.int (nI (n))), some (.int (nI s)), none] (by decide) (fun _ => rfl) (fun _ => Nat.le_of_ble_eq_true rfl) ?_
  refine pv_aload_n d_Y_send_0 rfl rfl ?_
  refine pv_iload_n d_Y_send_1 rfl rfl ?_
  refine pv_callV1I d_Y_send_2 (k_Y_refuse_up hξ hn hb hu ?_) sb_Y_refuse wm_Y_91 (gy_Y (by first | assumption | omega)) rfl ⟨wi_Y_refuse, we_Y_refuse⟩ (by decide) (by decide) (Nat.le_of_ble_eq_true rfl) (by decide) (by decide)
  refine pv_ist3 d_Y_send_5 rfl (by decide) ?_
  refine pv_iload_n d_Y_send_6 rfl rfl ?_
  first | refine pv_ifN_eq 12 (by decide) d_Y_send_7 (by first | assumption | omega | exact Nat.lt_of_le_of_lt Nat.and_le_right (by decide)) (fun h7 => ?_) (fun h7 => ?_) | refine pv_if_eq 12 (by decide) d_Y_send_7 (fun h7 => ?_) (fun h7 => ?_)
  · have q10 : τ 10 0 < 49 := hb 10 0
    have qq := y_qd_le (τ := τ) (n := n) (τ 10 0)
    refine pv_aload_n d_Y_send_12 rfl rfl ?_
    refine gY_messages d_Y_send_13 ff_Y_80 (by first | assumption | omega) ?_
    refine pv_bipush d_Y_send_16 (nI 48) (by decide) ?_
    first | refine pv_icmpN_eq 31 (by decide) d_Y_send_18 (by first | assumption | omega | exact Nat.lt_of_le_of_lt Nat.and_le_right (by decide)) (by first | assumption | omega | exact Nat.lt_of_le_of_lt Nat.and_le_right (by decide)) (fun h18 => ?_) (fun h18 => ?_) | refine pv_icmp_eq 31 (by decide) d_Y_send_18 (fun h18 => ?_) (fun h18 => ?_)
    · refine pv_bipush d_Y_send_31 (-4) (by decide) ?_
      refine pv_iret d_Y_send_33 ?_
      rw [b_send, if_neg hu] at k
      rw [if_pos h18] at k
      exact k
    · refine pv_aload_n d_Y_send_21 rfl rfl ?_
      refine pv_iload_n d_Y_send_22 rfl rfl ?_
      refine pv_callV1I d_Y_send_23 (k_Y_queued hξ hn hb ?_) sb_Y_queued wm_Y_95 (gy_Y (by first | assumption | omega)) rfl ⟨wi_Y_queued, we_Y_queued⟩ (by decide) (by decide) (Nat.le_of_ble_eq_true rfl) (by decide) (by decide)
      refine pv_bipush d_Y_send_26 (nI 8) (by decide) ?_
      first | refine pv_icmpN_ne 34 (by decide) d_Y_send_28 (by first | assumption | omega | exact Nat.lt_of_le_of_lt Nat.and_le_right (by decide)) (by first | assumption | omega | exact Nat.lt_of_le_of_lt Nat.and_le_right (by decide)) (fun h28 => ?_) (fun h28 => ?_) | refine pv_icmp_ne 34 (by decide) d_Y_send_28 (fun h28 => ?_) (fun h28 => ?_)
      · refine pv_aload_n d_Y_send_34 rfl rfl ?_
        refine pv_dup d_Y_send_35 rfl ?_
        refine gY_messages d_Y_send_36 ff_Y_80 (by first | assumption | omega) ?_
        refine pv_iconst d_Y_send_39 (nI 1) (by decide) ?_
        first | refine pv_iaddN d_Y_send_40 ?_ | refine pv_iadd d_Y_send_40 ?_
        refine pY_messages d_Y_send_41 ff_Y_80 (by first | assumption | omega) ?_
        refine pv_aload_n d_Y_send_44 rfl rfl ?_
        refine gY_origin d_Y_send_45 ff_Y_41 (by first | assumption | omega) ?_
        refine pv_aload_n d_Y_send_48 rfl rfl ?_
        refine gY_messages d_Y_send_49 ff_Y_80 (by first | assumption | omega) ?_
        rw [sU_same]
        refine pv_iload_n d_Y_send_52 rfl rfl ?_
        refine sy_origin d_Y_send_53 (by first | assumption | omega) (by first | assumption | omega) ?_
        refine pv_aload_n d_Y_send_54 rfl rfl ?_
        refine gY_isSafe d_Y_send_55 ff_Y_44 (by first | assumption | omega) ?_
        refine pv_aload_n d_Y_send_58 rfl rfl ?_
        refine gY_messages d_Y_send_59 ff_Y_80 (by first | assumption | omega) ?_
        rw [sU_nef (show (10 : Nat) ≠ 11 by decide), sU_same]
        refine pv_iload_n d_Y_send_62 rfl rfl ?_
        refine sy_isSafe d_Y_send_63 (by first | assumption | omega) (by first | assumption | omega) (nar_b (by omega)) ?_
        refine pv_aload_n d_Y_send_64 rfl rfl ?_
        refine gY_messages d_Y_send_65 ff_Y_80 (by first | assumption | omega) ?_
        rw [sU_nef (show (10 : Nat) ≠ 12 by decide), sU_nef (show (10 : Nat) ≠ 11 by decide), sU_same]
        refine pv_iret d_Y_send_68 ?_
        rw [b_send, if_neg hu] at k
        rw [if_neg h18] at k
        rw [if_neg h28] at k
        exact k
      · refine pv_bipush d_Y_send_31 (-4) (by decide) ?_
        refine pv_iret d_Y_send_33 ?_
        rw [b_send, if_neg hu] at k
        rw [if_neg h18] at k
        rw [if_pos h28] at k
        exact k
  · refine pv_iload_n d_Y_send_10 rfl rfl ?_
    refine pv_iret d_Y_send_11 ?_
    exact absurd rfl h7

set_option maxRecDepth 100000 in
set_option maxHeartbeats 4000000 in
theorem k_Y_tick_no {post : Int32 → List va_E → Prop} (hξ : ξ.length = 40) {x : Int32} (h : x < 0 ∨ nI 4 < x) (k : post (-3) (ξ ++ memY τ)) : pv_M l D ty base b 5 0 0 (fun _ => True) y_Y_tick c_Y_tick 3 (some .int) [.ref (40 + 1), .int x] (ξ ++ memY τ) (pv_QI D ty base b post) := by
  refine pv_enter [some (.ref (40 + 1)), some (.int x), none] (by decide) (fun _ => rfl) (fun _ => Nat.le_of_ble_eq_true rfl) ?_
  refine pv_aload_n d_Y_tick_0 rfl rfl ?_
  refine pv_iload_n d_Y_tick_1 rfl rfl ?_
  refine pv_callV1I d_Y_tick_2 (k_Y_refuse_no hξ h ?_) sb_Y_refuse wm_Y_91 (gy_Y (by first | assumption | omega)) rfl ⟨wi_Y_refuse, we_Y_refuse⟩ (by decide) (by decide) (Nat.le_of_ble_eq_true rfl) (by decide) (by decide)
  refine pv_ist2 d_Y_tick_5 rfl (by decide) ?_
  refine pv_iload_n d_Y_tick_6 rfl rfl ?_
  first | refine pv_ifN_eq 12 (by decide) d_Y_tick_7 (by first | assumption | omega | exact Nat.lt_of_le_of_lt Nat.and_le_right (by decide)) (fun h7 => ?_) (fun h7 => ?_) | refine pv_if_eq 12 (by decide) d_Y_tick_7 (fun h7 => ?_) (fun h7 => ?_)
  · exact absurd h7 (by decide)
  · refine pv_iload_n d_Y_tick_10 rfl rfl ?_
    refine pv_iret d_Y_tick_11 ?_
    exact k

set_option maxRecDepth 100000 in
set_option maxHeartbeats 4000000 in
theorem k_Y_tick_dn {post : Int32 → List va_E → Prop} (hξ : ξ.length = 40) {n : Nat} (hn : n < 5) (hb : bY τ) (hu : τ 0 n = 0) (k : post (-2) (ξ ++ memY τ)) : pv_M l D ty base b 5 0 0 (fun _ => True) y_Y_tick c_Y_tick 3 (some .int) [.ref (40 + 1), .int (nI (n))] (ξ ++ memY τ) (pv_QI D ty base b post) := by
  refine pv_enter [some (.ref (40 + 1)), some (.int (nI (n))), none] (by decide) (fun _ => rfl) (fun _ => Nat.le_of_ble_eq_true rfl) ?_
  refine pv_aload_n d_Y_tick_0 rfl rfl ?_
  refine pv_iload_n d_Y_tick_1 rfl rfl ?_
  refine pv_callV1I d_Y_tick_2 (k_Y_refuse_dn hξ hn hb hu ?_) sb_Y_refuse wm_Y_91 (gy_Y (by first | assumption | omega)) rfl ⟨wi_Y_refuse, we_Y_refuse⟩ (by decide) (by decide) (Nat.le_of_ble_eq_true rfl) (by decide) (by decide)
  refine pv_ist2 d_Y_tick_5 rfl (by decide) ?_
  refine pv_iload_n d_Y_tick_6 rfl rfl ?_
  first | refine pv_ifN_eq 12 (by decide) d_Y_tick_7 (by first | assumption | omega | exact Nat.lt_of_le_of_lt Nat.and_le_right (by decide)) (fun h7 => ?_) (fun h7 => ?_) | refine pv_if_eq 12 (by decide) d_Y_tick_7 (fun h7 => ?_) (fun h7 => ?_)
  · exact absurd h7 (by decide)
  · refine pv_iload_n d_Y_tick_10 rfl rfl ?_
    refine pv_iret d_Y_tick_11 ?_
    exact k

set_option maxRecDepth 100000 in
set_option maxHeartbeats 4000000 in
theorem k_Y_tick_up {post : Int32 → List va_E → Prop} (hξ : ξ.length = 40) {n : Nat} (hn : n < 5) (hb : bY τ) (hu : τ 0 n ≠ 0) (h6 : τ 6 n ≤ 3) (ok : ¬ τ 6 n + 1 < 4 → y_formOK (sU τ 6 n (τ 6 n + 1)) (τ 1 n)) (k : post (b_tick τ n).1 (ξ ++ memY (b_tick τ n).2)) : pv_M l D ty base b 5 0 0 (fun _ => True) y_Y_tick c_Y_tick 3 (some .int) [.ref (40 + 1), .int (nI (n))] (ξ ++ memY τ) (pv_QI D ty base b post) := by
  refine pv_enter [some (.ref (40 + 1)), some (.int (nI (n))), none] (by decide) (fun _ => rfl) (fun _ => Nat.le_of_ble_eq_true rfl) ?_
  refine pv_aload_n d_Y_tick_0 rfl rfl ?_
  refine pv_iload_n d_Y_tick_1 rfl rfl ?_
  refine pv_callV1I d_Y_tick_2 (k_Y_refuse_up hξ hn hb hu ?_) sb_Y_refuse wm_Y_91 (gy_Y (by first | assumption | omega)) rfl ⟨wi_Y_refuse, we_Y_refuse⟩ (by decide) (by decide) (Nat.le_of_ble_eq_true rfl) (by decide) (by decide)
  refine pv_ist2 d_Y_tick_5 rfl (by decide) ?_
  refine pv_iload_n d_Y_tick_6 rfl rfl ?_
  first | refine pv_ifN_eq 12 (by decide) d_Y_tick_7 (by first | assumption | omega | exact Nat.lt_of_le_of_lt Nat.and_le_right (by decide)) (fun h7 => ?_) (fun h7 => ?_) | refine pv_if_eq 12 (by decide) d_Y_tick_7 (fun h7 => ?_) (fun h7 => ?_)
  · have q1 : τ 1 n < 3 := hb 1 n
    refine pv_aload_n d_Y_tick_12 rfl rfl ?_
    refine gY_timer d_Y_tick_13 ff_Y_29 (by first | assumption | omega) ?_
    refine pv_iload_n d_Y_tick_16 rfl rfl ?_
    refine pv_dup2 d_Y_tick_17 rfl rfl ?_
    refine ly_timer d_Y_tick_18 (by first | assumption | omega) (by first | assumption | omega) ?_
    refine pv_iconst d_Y_tick_19 (nI 1) (by decide) ?_
    first | refine pv_iaddN d_Y_tick_20 ?_ | refine pv_iadd d_Y_tick_20 ?_
    refine sy_timer d_Y_tick_21 (by first | assumption | omega) (by first | assumption | omega) ?_
    refine pv_aload_n d_Y_tick_22 rfl rfl ?_
    refine gY_timer d_Y_tick_23 ff_Y_29 (by first | assumption | omega) ?_
    refine pv_iload_n d_Y_tick_26 rfl rfl ?_
    refine ly_timer d_Y_tick_27 (by first | assumption | omega) (by first | assumption | omega) ?_
    rw [sU_same]
    refine pv_iconst d_Y_tick_28 (nI 4) (by decide) ?_
    first | refine pv_icmpN_ge 34 (by decide) d_Y_tick_29 (by first | assumption | omega | exact Nat.lt_of_le_of_lt Nat.and_le_right (by decide)) (by first | assumption | omega | exact Nat.lt_of_le_of_lt Nat.and_le_right (by decide)) (fun h29 => ?_) (fun h29 => ?_) | refine pv_icmp_ge 34 (by decide) d_Y_tick_29 (fun h29 => ?_) (fun h29 => ?_)
    · refine pv_aload_n d_Y_tick_34 rfl rfl ?_
      refine pv_aload_n d_Y_tick_35 rfl rfl ?_
      refine gY_area d_Y_tick_36 ff_Y_13 (by first | assumption | omega) ?_
      refine pv_iload_n d_Y_tick_39 rfl rfl ?_
      refine ly_area d_Y_tick_40 (by first | assumption | omega) (by first | assumption | omega) ?_
      rw [sU_nef (show (1 : Nat) ≠ 6 by decide)]
      refine pv_callV1V d_Y_tick_41 (k_Y_form hξ (by omega) (bY_sU hb (show _ < 5 by omega)) (ok (by omega)) ?_) sb_Y_form wm_Y_129 (gy_Y (by first | assumption | omega)) rfl ⟨wi_Y_form, we_Y_form⟩ (by decide) (by decide) (Nat.le_of_ble_eq_true rfl) (by decide) (by decide)
      refine pv_iconst d_Y_tick_44 (nI 1) (by decide) ?_
      refine pv_iret d_Y_tick_45 ?_
      rw [b_tick, if_neg hu, if_neg (by omega)] at k
      exact k
    · refine pv_iconst d_Y_tick_32 (nI 0) (by decide) ?_
      refine pv_iret d_Y_tick_33 ?_
      rw [b_tick, if_neg hu, if_pos h29] at k
      exact k
  · refine pv_iload_n d_Y_tick_10 rfl rfl ?_
    refine pv_iret d_Y_tick_11 ?_
    exact absurd rfl h7

set_option maxRecDepth 100000 in
set_option maxHeartbeats 4000000 in
theorem k_Y_crash_no {post : Int32 → List va_E → Prop} (hξ : ξ.length = 40) {x : Int32} (h : x < 0 ∨ nI 4 < x) (k : post (nI 0) (ξ ++ memY τ)) : pv_M l D ty base b 2 0 0 (fun _ => True) y_Y_crash c_Y_crash 4 (some .boolean) [.ref (40 + 1), .int x] (ξ ++ memY τ) (pv_QI D ty base b post) := by
  refine pv_enter [some (.ref (40 + 1)), some (.int x), none, none] (by decide) (fun _ => rfl) (fun _ => Nat.le_of_ble_eq_true rfl) ?_
  refine pv_aload_n d_Y_crash_0 rfl rfl ?_
  refine pv_iload_n d_Y_crash_1 rfl rfl ?_
  refine pv_callV1I d_Y_crash_2 (k_Y_refuse_no hξ h ?_) sb_Y_refuse wm_Y_91 (gy_Y (by first | assumption | omega)) rfl ⟨wi_Y_refuse, we_Y_refuse⟩ (by decide) (by decide) (Nat.le_of_ble_eq_true rfl) (by decide) (by decide)
  first | refine pv_ifN_eq 10 (by decide) d_Y_crash_5 (by first | assumption | omega | exact Nat.lt_of_le_of_lt Nat.and_le_right (by decide)) (fun h5 => ?_) (fun h5 => ?_) | refine pv_if_eq 10 (by decide) d_Y_crash_5 (fun h5 => ?_) (fun h5 => ?_)
  · exact absurd h5 (by decide)
  · refine pv_iconst d_Y_crash_8 (nI 0) (by decide) ?_
    refine pv_zret d_Y_crash_9 (by first | rfl | decide) ?_
    exact k

set_option maxRecDepth 100000 in
set_option maxHeartbeats 4000000 in
theorem k_Y_crash_dn {post : Int32 → List va_E → Prop} (hξ : ξ.length = 40) {n : Nat} (hn : n < 5) (hb : bY τ) (hu : τ 0 n = 0) (k : post (nI 0) (ξ ++ memY τ)) : pv_M l D ty base b 2 0 0 (fun _ => True) y_Y_crash c_Y_crash 4 (some .boolean) [.ref (40 + 1), .int (nI (n))] (ξ ++ memY τ) (pv_QI D ty base b post) := by
  refine pv_enter [some (.ref (40 + 1)), some (.int (nI (n))), none, none] (by decide) (fun _ => rfl) (fun _ => Nat.le_of_ble_eq_true rfl) ?_
  refine pv_aload_n d_Y_crash_0 rfl rfl ?_
  refine pv_iload_n d_Y_crash_1 rfl rfl ?_
  refine pv_callV1I d_Y_crash_2 (k_Y_refuse_dn hξ hn hb hu ?_) sb_Y_refuse wm_Y_91 (gy_Y (by first | assumption | omega)) rfl ⟨wi_Y_refuse, we_Y_refuse⟩ (by decide) (by decide) (Nat.le_of_ble_eq_true rfl) (by decide) (by decide)
  first | refine pv_ifN_eq 10 (by decide) d_Y_crash_5 (by first | assumption | omega | exact Nat.lt_of_le_of_lt Nat.and_le_right (by decide)) (fun h5 => ?_) (fun h5 => ?_) | refine pv_if_eq 10 (by decide) d_Y_crash_5 (fun h5 => ?_) (fun h5 => ?_)
  · exact absurd h5 (by decide)
  · refine pv_iconst d_Y_crash_8 (nI 0) (by decide) ?_
    refine pv_zret d_Y_crash_9 (by first | rfl | decide) ?_
    exact k

set_option maxRecDepth 100000 in
set_option maxHeartbeats 4000000 in
theorem k_Y_crash_up {post : Int32 → List va_E → Prop} (hξ : ξ.length = 40) {n : Nat} (hn : n < 5) (hb : bY τ) (hu : τ 0 n ≠ 0) (k : post (b_crash τ n).1 (ξ ++ memY (b_crash τ n).2)) : pv_M l D ty base b 2 0 0 (fun _ => True) y_Y_crash c_Y_crash 4 (some .boolean) [.ref (40 + 1), .int (nI (n))] (ξ ++ memY τ) (pv_QI D ty base b post) := by
  refine pv_enter [some (.ref (40 + 1)), some (.int (nI (n))), none, none] (by decide) (fun _ => rfl) (fun _ => Nat.le_of_ble_eq_true rfl) ?_
  have q2 : τ 2 n < 520 := hb 2 n
  have q10 : τ 10 0 < 49 := hb 10 0
  have hbc : bY (sU (sU (y_untok τ n) 0 n 0) 5 n 0) := bY_sU (bY_sU (bY_untok hb) (by decide)) (by decide)
  have x10 : ∀ i, y_gn n (sU (sU (y_untok τ n) 0 n 0) 5 n 0) i 10 0 = τ 10 0 := fun i => by rw [y_gn_ne (by decide), sU_nef (by decide), sU_nef (by decide)]; unfold y_untok; rw [sU_nef (by decide)]
  have loop : ∀ (j i : Nat), i + j = τ 10 0 → pv_V l D ty base b c_Y_crash 4 y_Y_crash.cls (some .boolean) y_Y_crash.name (pv_rm 2 0 0) (fun _ => True) (pv_Qf base 0 0 (pv_QI D ty base b post)) 0 0 59 [some (.ref (40 + 1)), some (.int (nI (n))), some (.int (nI (τ 2 n))), some (.int (nI (i + 1)))] [] (ξ ++ memY (y_gn n (sU (sU (y_untok τ n) 0 n 0) 5 n 0) i)) := by
    intro j
    induction j with
    | zero =>
      intro i hi
      refine pv_iload_n d_Y_crash_59 rfl rfl ?_
      refine pv_aload_n d_Y_crash_60 rfl rfl ?_
      refine gY_messages d_Y_crash_61 ff_Y_80 (by first | assumption | omega) ?_
      rw [x10]
      first | refine pv_icmpN_gt 112 (by decide) d_Y_crash_64 (by first | assumption | omega | exact Nat.lt_of_le_of_lt Nat.and_le_right (by decide)) (by first | assumption | omega | exact Nat.lt_of_le_of_lt Nat.and_le_right (by decide)) (fun h64 => ?_) (fun h64 => ?_) | refine pv_icmp_gt 112 (by decide) d_Y_crash_64 (fun h64 => ?_) (fun h64 => ?_)
      · refine pv_iconst d_Y_crash_112 (nI 1) (by decide) ?_
        refine pv_zret d_Y_crash_113 (by first | rfl | decide) ?_
        obtain rfl : i = τ 10 0 := by omega
        rw [b_crash, if_neg hu] at k
        exact k
      · omega
    | succ j ih =>
      intro i hi
      refine pv_iload_n d_Y_crash_59 rfl rfl ?_
      refine pv_aload_n d_Y_crash_60 rfl rfl ?_
      refine gY_messages d_Y_crash_61 ff_Y_80 (by first | assumption | omega) ?_
      rw [x10]
      first | refine pv_icmpN_gt 112 (by decide) d_Y_crash_64 (by first | assumption | omega | exact Nat.lt_of_le_of_lt Nat.and_le_right (by decide)) (by first | assumption | omega | exact Nat.lt_of_le_of_lt Nat.and_le_right (by decide)) (fun h64 => ?_) (fun h64 => ?_) | refine pv_icmp_gt 112 (by decide) d_Y_crash_64 (fun h64 => ?_) (fun h64 => ?_)
      · omega
      · have q13 : y_gn n (sU (sU (y_untok τ n) 0 n 0) 5 n 0) i 13 (i + 1) < 2 := bY_gn hbc i 13 _
        have q11 : y_gn n (sU (sU (y_untok τ n) 0 n 0) 5 n 0) i 11 (i + 1) < 5 := bY_gn hbc i 11 _
        have q15 : y_gn n (sU (sU (y_untok τ n) 0 n 0) 5 n 0) i 15 (i + 1) < 49 := bY_gn hbc i 15 _
        refine pv_aload_n d_Y_crash_67 rfl rfl ?_
        refine gY_gone d_Y_crash_68 ff_Y_47 (by first | assumption | omega) ?_
        refine pv_iload_n d_Y_crash_71 rfl rfl ?_
        refine pv_aload_n d_Y_crash_72 rfl rfl ?_
        refine gY_gone d_Y_crash_73 ff_Y_47 (by first | assumption | omega) ?_
        refine pv_iload_n d_Y_crash_76 rfl rfl ?_
        refine ly_gone d_Y_crash_77 (by first | assumption | omega) (by first | assumption | omega) ?_
        first | refine pv_ifN_ne 100 (by decide) d_Y_crash_78 (by first | assumption | omega | exact Nat.lt_of_le_of_lt Nat.and_le_right (by decide)) (fun h78 => ?_) (fun h78 => ?_) | refine pv_if_ne 100 (by decide) d_Y_crash_78 (fun h78 => ?_) (fun h78 => ?_)
        · refine pv_iconst d_Y_crash_100 (nI 1) (by decide) ?_
          refine pv_goto 105 (by decide) d_Y_crash_101 ?_
          refine sy_gone d_Y_crash_105 (by first | assumption | omega) (by first | assumption | omega) (nar_b (by omega)) ?_
          refine pv_inc3 d_Y_crash_106 rfl (by decide) ?_
          refine pv_goto 59 (by decide) d_Y_crash_109 ?_
          have hz := ih (i + 1) (by omega)
          rw [y_gn_s] at hz
          rw [show decide (y_gn n (sU (sU (y_untok τ n) 0 n 0) 5 n 0) i 13 (i + 1) ≠ 0 ∨ (y_gn n (sU (sU (y_untok τ n) 0 n 0) 5 n 0) i 11 (i + 1) = n ∧ y_gn n (sU (sU (y_untok τ n) 0 n 0) 5 n 0) i 15 (i + 1) = 0)) = true from decide_eq_true (Or.inl h78)] at hz
          exact hz
        · refine pv_aload_n d_Y_crash_81 rfl rfl ?_
          refine gY_origin d_Y_crash_82 ff_Y_41 (by first | assumption | omega) ?_
          refine pv_iload_n d_Y_crash_85 rfl rfl ?_
          refine ly_origin d_Y_crash_86 (by first | assumption | omega) (by first | assumption | omega) ?_
          refine pv_iload_n d_Y_crash_87 rfl rfl ?_
          first | refine pv_icmpN_ne 104 (by decide) d_Y_crash_88 (by first | assumption | omega | exact Nat.lt_of_le_of_lt Nat.and_le_right (by decide)) (by first | assumption | omega | exact Nat.lt_of_le_of_lt Nat.and_le_right (by decide)) (fun h88 => ?_) (fun h88 => ?_) | refine pv_icmp_ne 104 (by decide) d_Y_crash_88 (fun h88 => ?_) (fun h88 => ?_)
          · refine pv_iconst d_Y_crash_104 (nI 0) (by decide) ?_
            refine sy_gone d_Y_crash_105 (by first | assumption | omega) (by first | assumption | omega) (nar_b (by omega)) ?_
            refine pv_inc3 d_Y_crash_106 rfl (by decide) ?_
            refine pv_goto 59 (by decide) d_Y_crash_109 ?_
            have hz := ih (i + 1) (by omega)
            rw [y_gn_s] at hz
            rw [show decide (y_gn n (sU (sU (y_untok τ n) 0 n 0) 5 n 0) i 13 (i + 1) ≠ 0 ∨ (y_gn n (sU (sU (y_untok τ n) 0 n 0) 5 n 0) i 11 (i + 1) = n ∧ y_gn n (sU (sU (y_untok τ n) 0 n 0) 5 n 0) i 15 (i + 1) = 0)) = false from decide_eq_false (fun z => z.elim (fun q => q h78) (fun q => h88 q.1))] at hz
            exact hz
          · refine pv_aload_n d_Y_crash_91 rfl rfl ?_
            refine gY_number d_Y_crash_92 ff_Y_53 (by first | assumption | omega) ?_
            refine pv_iload_n d_Y_crash_95 rfl rfl ?_
            refine ly_number d_Y_crash_96 (by first | assumption | omega) (by first | assumption | omega) ?_
            first | refine pv_ifN_ne 104 (by decide) d_Y_crash_97 (by first | assumption | omega | exact Nat.lt_of_le_of_lt Nat.and_le_right (by decide)) (fun h97 => ?_) (fun h97 => ?_) | refine pv_if_ne 104 (by decide) d_Y_crash_97 (fun h97 => ?_) (fun h97 => ?_)
            · refine pv_iconst d_Y_crash_104 (nI 0) (by decide) ?_
              refine sy_gone d_Y_crash_105 (by first | assumption | omega) (by first | assumption | omega) (nar_b (by omega)) ?_
              refine pv_inc3 d_Y_crash_106 rfl (by decide) ?_
              refine pv_goto 59 (by decide) d_Y_crash_109 ?_
              have hz := ih (i + 1) (by omega)
              rw [y_gn_s] at hz
              rw [show decide (y_gn n (sU (sU (y_untok τ n) 0 n 0) 5 n 0) i 13 (i + 1) ≠ 0 ∨ (y_gn n (sU (sU (y_untok τ n) 0 n 0) 5 n 0) i 11 (i + 1) = n ∧ y_gn n (sU (sU (y_untok τ n) 0 n 0) 5 n 0) i 15 (i + 1) = 0)) = false from decide_eq_false (fun z => z.elim (fun q => q h78) (fun q => h97 q.2))] at hz
              exact hz
            · refine pv_iconst d_Y_crash_100 (nI 1) (by decide) ?_
              refine pv_goto 105 (by decide) d_Y_crash_101 ?_
              refine sy_gone d_Y_crash_105 (by first | assumption | omega) (by first | assumption | omega) (nar_b (by omega)) ?_
              refine pv_inc3 d_Y_crash_106 rfl (by decide) ?_
              refine pv_goto 59 (by decide) d_Y_crash_109 ?_
              have hz := ih (i + 1) (by omega)
              rw [y_gn_s] at hz
              rw [show decide (y_gn n (sU (sU (y_untok τ n) 0 n 0) 5 n 0) i 13 (i + 1) ≠ 0 ∨ (y_gn n (sU (sU (y_untok τ n) 0 n 0) 5 n 0) i 11 (i + 1) = n ∧ y_gn n (sU (sU (y_untok τ n) 0 n 0) 5 n 0) i 15 (i + 1) = 0)) = true from decide_eq_true (Or.inr ⟨h88, h97⟩)] at hz
              exact hz
  refine pv_aload_n d_Y_crash_0 rfl rfl ?_
  refine pv_iload_n d_Y_crash_1 rfl rfl ?_
  refine pv_callV1I d_Y_crash_2 (k_Y_refuse_up hξ hn hb hu ?_) sb_Y_refuse wm_Y_91 (gy_Y (by first | assumption | omega)) rfl ⟨wi_Y_refuse, we_Y_refuse⟩ (by decide) (by decide) (Nat.le_of_ble_eq_true rfl) (by decide) (by decide)
  first | refine pv_ifN_eq 10 (by decide) d_Y_crash_5 (by first | assumption | omega | exact Nat.lt_of_le_of_lt Nat.and_le_right (by decide)) (fun h5 => ?_) (fun h5 => ?_) | refine pv_if_eq 10 (by decide) d_Y_crash_5 (fun h5 => ?_) (fun h5 => ?_)
  · refine pv_aload_n d_Y_crash_10 rfl rfl ?_
    refine gY_ringOf d_Y_crash_11 ff_Y_17 (by first | assumption | omega) ?_
    refine pv_iload_n d_Y_crash_14 rfl rfl ?_
    refine ly_ringOf d_Y_crash_15 (by first | assumption | omega) (by first | assumption | omega) ?_
    refine pv_ist2 d_Y_crash_16 rfl (by decide) ?_
    refine pv_aload_n d_Y_crash_17 rfl rfl ?_
    refine gY_at d_Y_crash_18 ff_Y_56 (by first | assumption | omega) ?_
    refine pv_iload_n d_Y_crash_21 rfl rfl ?_
    refine pv_aload_n d_Y_crash_22 rfl rfl ?_
    refine gY_at d_Y_crash_23 ff_Y_56 (by first | assumption | omega) ?_
    refine pv_iload_n d_Y_crash_26 rfl rfl ?_
    refine ly_at d_Y_crash_27 (by first | assumption | omega) (by first | assumption | omega) ?_
    refine pv_iload_n d_Y_crash_28 rfl rfl ?_
    first | refine pv_icmpN_ne 36 (by decide) d_Y_crash_29 (by first | assumption | omega | exact Nat.lt_of_le_of_lt Nat.and_le_right (by decide)) (by first | assumption | omega | exact Nat.lt_of_le_of_lt Nat.and_le_right (by decide)) (fun h29 => ?_) (fun h29 => ?_) | refine pv_icmp_ne 36 (by decide) d_Y_crash_29 (fun h29 => ?_) (fun h29 => ?_)
    · refine pv_aload_n d_Y_crash_36 rfl rfl ?_
      refine gY_at d_Y_crash_37 ff_Y_56 (by first | assumption | omega) ?_
      refine pv_iload_n d_Y_crash_40 rfl rfl ?_
      refine ly_at d_Y_crash_41 (by first | assumption | omega) (by first | assumption | omega) ?_
      refine sy_at d_Y_crash_42 (by first | assumption | omega) (by first | assumption | omega) ?_
      refine pv_aload_n d_Y_crash_43 rfl rfl ?_
      refine gY_up d_Y_crash_44 ff_Y_7 (by first | assumption | omega) ?_
      refine pv_iload_n d_Y_crash_47 rfl rfl ?_
      refine pv_iconst d_Y_crash_48 (nI 0) (by decide) ?_
      refine sy_up d_Y_crash_49 (by first | assumption | omega) (by first | assumption | omega) (nar_b (by omega)) ?_
      refine pv_aload_n d_Y_crash_50 rfl rfl ?_
      refine gY_deaf d_Y_crash_51 ff_Y_26 (by first | assumption | omega) ?_
      refine pv_iload_n d_Y_crash_54 rfl rfl ?_
      refine pv_iconst d_Y_crash_55 (nI 0) (by decide) ?_
      refine sy_deaf d_Y_crash_56 (by first | assumption | omega) (by first | assumption | omega) ?_
      refine pv_iconst d_Y_crash_57 (nI 1) (by decide) ?_
      refine pv_ist3 d_Y_crash_58 rfl (by decide) ?_
      have hz := loop (τ 10 0) 0 (by omega)
      rw [show y_gn n (sU (sU (y_untok τ n) 0 n 0) 5 n 0) 0 = (sU (sU (y_untok τ n) 0 n 0) 5 n 0) from rfl, y_untok, if_neg (mt (tk_eq (Nat.lt_of_lt_of_le (hb 17 (τ 2 n)) (by decide)) (by omega)).mpr h29)] at hz
      exact hz
    · refine pv_iconst d_Y_crash_32 (-1) (by decide) ?_
      refine pv_goto 42 (by decide) d_Y_crash_33 ?_
      refine sy_atM d_Y_crash_42 (by first | assumption | omega) (by first | assumption | omega) ?_
      refine pv_aload_n d_Y_crash_43 rfl rfl ?_
      refine gY_up d_Y_crash_44 ff_Y_7 (by first | assumption | omega) ?_
      refine pv_iload_n d_Y_crash_47 rfl rfl ?_
      refine pv_iconst d_Y_crash_48 (nI 0) (by decide) ?_
      refine sy_up d_Y_crash_49 (by first | assumption | omega) (by first | assumption | omega) (nar_b (by omega)) ?_
      refine pv_aload_n d_Y_crash_50 rfl rfl ?_
      refine gY_deaf d_Y_crash_51 ff_Y_26 (by first | assumption | omega) ?_
      refine pv_iload_n d_Y_crash_54 rfl rfl ?_
      refine pv_iconst d_Y_crash_55 (nI 0) (by decide) ?_
      refine sy_deaf d_Y_crash_56 (by first | assumption | omega) (by first | assumption | omega) ?_
      refine pv_iconst d_Y_crash_57 (nI 1) (by decide) ?_
      refine pv_ist3 d_Y_crash_58 rfl (by decide) ?_
      have hz := loop (τ 10 0) 0 (by omega)
      rw [show y_gn n (sU (sU (y_untok τ n) 0 n 0) 5 n 0) 0 = (sU (sU (y_untok τ n) 0 n 0) 5 n 0) from rfl, y_untok, if_pos ((tk_eq (Nat.lt_of_lt_of_le (hb 17 (τ 2 n)) (by decide)) (by omega)).mp h29)] at hz
      exact hz
  · refine pv_iconst d_Y_crash_8 (nI 0) (by decide) ?_
    refine pv_zret d_Y_crash_9 (by first | rfl | decide) ?_
    exact absurd rfl h5

set_option maxRecDepth 100000 in
set_option maxHeartbeats 4000000 in
theorem k_Y_restart_no {post : Int32 → List va_E → Prop} (hξ : ξ.length = 40) {x : Int32} (h : x < 0 ∨ nI 4 < x) (k : post (nI 0) (ξ ++ memY τ)) : pv_M l D ty base b 1 0 0 (fun _ => True) y_Y_restart c_Y_restart 2 (some .boolean) [.ref (40 + 1), .int x] (ξ ++ memY τ) (pv_QI D ty base b post) := by
  refine pv_enter [some (.ref (40 + 1)), some (.int x)] (by decide) (fun _ => rfl) (fun _ => Nat.le_of_ble_eq_true rfl) ?_
  refine pv_iload_n d_Y_restart_0 rfl rfl ?_
  refine pv_callS1I d_Y_restart_1 (k_Y_outside_no h ?_) sb_Y_outside wm_Y_76 ws_Y_outside (by decide) (by decide) (Nat.le_of_ble_eq_true rfl) (by decide) (by decide)
  first | refine pv_ifN_ne 16 (by decide) d_Y_restart_4 (by first | assumption | omega | exact Nat.lt_of_le_of_lt Nat.and_le_right (by decide)) (fun h4 => ?_) (fun h4 => ?_) | refine pv_if_ne 16 (by decide) d_Y_restart_4 (fun h4 => ?_) (fun h4 => ?_)
  · refine pv_iconst d_Y_restart_16 (nI 0) (by decide) ?_
    refine pv_zret d_Y_restart_17 (by first | rfl | decide) ?_
    exact k
  · exact absurd h4 (by decide)

set_option maxRecDepth 100000 in
set_option maxHeartbeats 4000000 in
theorem k_Y_restart {post : Int32 → List va_E → Prop} (hξ : ξ.length = 40) {n : Nat} (hn : n < 5) (hb : bY τ) (h16 : τ 16 0 + 1 < 520) (k : post (b_restart τ n).1 (ξ ++ memY (b_restart τ n).2)) : pv_M l D ty base b 1 0 0 (fun _ => True) y_Y_restart c_Y_restart 2 (some .boolean) [.ref (40 + 1), .int (nI (n))] (ξ ++ memY τ) (pv_QI D ty base b post) := by
  refine pv_enter [some (.ref (40 + 1)), some (.int (nI (n)))] (by decide) (fun _ => rfl) (fun _ => Nat.le_of_ble_eq_true rfl) ?_
  have q0 : τ 0 n < 2 := hb 0 n
  refine pv_iload_n d_Y_restart_0 rfl rfl ?_
  refine pv_callS1I d_Y_restart_1 (k_Y_outside hn ?_) sb_Y_outside wm_Y_76 ws_Y_outside (by decide) (by decide) (Nat.le_of_ble_eq_true rfl) (by decide) (by decide)
  first | refine pv_ifN_ne 16 (by decide) d_Y_restart_4 (by first | assumption | omega | exact Nat.lt_of_le_of_lt Nat.and_le_right (by decide)) (fun h4 => ?_) (fun h4 => ?_) | refine pv_if_ne 16 (by decide) d_Y_restart_4 (fun h4 => ?_) (fun h4 => ?_)
  · refine pv_iconst d_Y_restart_16 (nI 0) (by decide) ?_
    refine pv_zret d_Y_restart_17 (by first | rfl | decide) ?_
    exact absurd rfl h4
  · refine pv_aload_n d_Y_restart_7 rfl rfl ?_
    refine gY_up d_Y_restart_8 ff_Y_7 (by first | assumption | omega) ?_
    refine pv_iload_n d_Y_restart_11 rfl rfl ?_
    refine ly_up d_Y_restart_12 (by first | assumption | omega) (by first | assumption | omega) ?_
    first | refine pv_ifN_eq 18 (by decide) d_Y_restart_13 (by first | assumption | omega | exact Nat.lt_of_le_of_lt Nat.and_le_right (by decide)) (fun h13 => ?_) (fun h13 => ?_) | refine pv_if_eq 18 (by decide) d_Y_restart_13 (fun h13 => ?_) (fun h13 => ?_)
    · refine pv_aload_n d_Y_restart_18 rfl rfl ?_
      refine gY_up d_Y_restart_19 ff_Y_7 (by first | assumption | omega) ?_
      refine pv_iload_n d_Y_restart_22 rfl rfl ?_
      refine pv_iconst d_Y_restart_23 (nI 1) (by decide) ?_
      refine sy_up d_Y_restart_24 (by first | assumption | omega) (by first | assumption | omega) (nar_b (by omega)) ?_
      refine pv_aload_n d_Y_restart_25 rfl rfl ?_
      refine pv_iconst d_Y_restart_26 (nI 1) (by decide) ?_
      refine pv_iload_n d_Y_restart_27 rfl rfl ?_
      first | refine pv_ishl1 d_Y_restart_28 (by omega) ?_ | refine pv_ishl d_Y_restart_28 ?_
      refine pv_iload_n d_Y_restart_29 rfl rfl ?_
      refine pv_callV2V d_Y_restart_30 (k_Y_newRing hξ (by rw [sU_nef (by decide)]; exact h16) ?_) sb_Y_newRing wm_Y_147 (gy_Y (by first | assumption | omega)) rfl ⟨wi_Y_newRing, we_Y_newRing⟩ (by decide) (by decide) (Nat.le_of_ble_eq_true rfl) (by decide) (by decide)
      refine pv_aload_n d_Y_restart_33 rfl rfl ?_
      refine gY_ringOf d_Y_restart_34 ff_Y_17 (by first | assumption | omega) ?_
      refine pv_iload_n d_Y_restart_37 rfl rfl ?_
      refine pv_aload_n d_Y_restart_38 rfl rfl ?_
      refine gY_rings d_Y_restart_39 ff_Y_72 (by first | assumption | omega) ?_
      rw [show y_newR (sU τ 0 n 1) (2 ^ n) n 16 0 = τ 16 0 + 1 from by unfold y_newR; rw [sU_nef (by decide), sU_nef (by decide), sU_same, sU_nef (by decide)]]
      refine sy_ringOf d_Y_restart_42 (by first | assumption | omega) (by first | assumption | omega) ?_
      refine pv_aload_n d_Y_restart_43 rfl rfl ?_
      refine pv_iload_n d_Y_restart_44 rfl rfl ?_
      refine pv_callV1V d_Y_restart_45 (k_Y_clean hξ hn ?_) sb_Y_clean wm_Y_135 (gy_Y (by first | assumption | omega)) rfl ⟨wi_Y_clean, we_Y_clean⟩ (by decide) (by decide) (Nat.le_of_ble_eq_true rfl) (by decide) (by decide)
      refine pv_iconst d_Y_restart_48 (nI 1) (by decide) ?_
      refine pv_zret d_Y_restart_49 (by first | rfl | decide) ?_
      rw [b_restart, if_pos h13] at k
      exact k
    · refine pv_iconst d_Y_restart_16 (nI 0) (by decide) ?_
      refine pv_zret d_Y_restart_17 (by first | rfl | decide) ?_
      rw [b_restart, if_neg h13] at k
      exact k

set_option maxRecDepth 100000 in
set_option maxHeartbeats 4000000 in
theorem k_Y_place_no {post : Int32 → List va_E → Prop} (hξ : ξ.length = 40) {x y : Int32} (h : x < 0 ∨ nI 4 < x) (k : post (nI 0) (ξ ++ memY τ)) : pv_M l D ty base b 1 0 0 (fun _ => True) y_Y_place c_Y_place 3 (some .boolean) [.ref (40 + 1), .int x, .int y] (ξ ++ memY τ) (pv_QI D ty base b post) := by
  refine pv_enter [some (.ref (40 + 1)), some (.int x), some (.int y)] (by decide) (fun _ => rfl) (fun _ => Nat.le_of_ble_eq_true rfl) ?_
  refine pv_iload_n d_Y_place_0 rfl rfl ?_
  refine pv_callS1I d_Y_place_1 (k_Y_outside_no h ?_) sb_Y_outside wm_Y_76 ws_Y_outside (by decide) (by decide) (Nat.le_of_ble_eq_true rfl) (by decide) (by decide)
  first | refine pv_ifN_ne 16 (by decide) d_Y_place_4 (by first | assumption | omega | exact Nat.lt_of_le_of_lt Nat.and_le_right (by decide)) (fun h4 => ?_) (fun h4 => ?_) | refine pv_if_ne 16 (by decide) d_Y_place_4 (fun h4 => ?_) (fun h4 => ?_)
  · refine pv_iconst d_Y_place_16 (nI 0) (by decide) ?_
    refine pv_zret d_Y_place_17 (by first | rfl | decide) ?_
    exact k
  · exact absurd h4 (by decide)

set_option maxRecDepth 100000 in
set_option maxHeartbeats 4000000 in
theorem k_Y_place_out {post : Int32 → List va_E → Prop} (hξ : ξ.length = 40) {n : Nat} {y : Int32} (hn : n < 5) (hy : y < 0 ∨ nI 2 < y) (k : post (nI 0) (ξ ++ memY τ)) : pv_M l D ty base b 1 0 0 (fun _ => True) y_Y_place c_Y_place 3 (some .boolean) [.ref (40 + 1), .int (nI (n)), .int y] (ξ ++ memY τ) (pv_QI D ty base b post) := by
  refine pv_enter [some (.ref (40 + 1)), some (.int (nI (n))), some (.int y)] (by decide) (fun _ => rfl) (fun _ => Nat.le_of_ble_eq_true rfl) ?_
  refine pv_iload_n d_Y_place_0 rfl rfl ?_
  refine pv_callS1I d_Y_place_1 (k_Y_outside hn ?_) sb_Y_outside wm_Y_76 ws_Y_outside (by decide) (by decide) (Nat.le_of_ble_eq_true rfl) (by decide) (by decide)
  first | refine pv_ifN_ne 16 (by decide) d_Y_place_4 (by first | assumption | omega | exact Nat.lt_of_le_of_lt Nat.and_le_right (by decide)) (fun h4 => ?_) (fun h4 => ?_) | refine pv_if_ne 16 (by decide) d_Y_place_4 (fun h4 => ?_) (fun h4 => ?_)
  · refine pv_iconst d_Y_place_16 (nI 0) (by decide) ?_
    refine pv_zret d_Y_place_17 (by first | rfl | decide) ?_
    exact absurd rfl h4
  · refine pv_iload_n d_Y_place_7 rfl rfl ?_
    refine pv_if_lt 16 (by decide) d_Y_place_8 (fun h8 => ?_) (fun h8 => ?_)
    · refine pv_iconst d_Y_place_16 (nI 0) (by decide) ?_
      refine pv_zret d_Y_place_17 (by first | rfl | decide) ?_
      exact k
    · refine pv_iload_n d_Y_place_11 rfl rfl ?_
      refine pv_iconst d_Y_place_12 (nI 2) (by decide) ?_
      first | refine pv_icmpN_le 18 (by decide) d_Y_place_13 (by first | assumption | omega | exact Nat.lt_of_le_of_lt Nat.and_le_right (by decide)) (by first | assumption | omega | exact Nat.lt_of_le_of_lt Nat.and_le_right (by decide)) (fun h13 => ?_) (fun h13 => ?_) | refine pv_icmp_le 18 (by decide) d_Y_place_13 (fun h13 => ?_) (fun h13 => ?_)
      · exact hy.elim (fun q => absurd q h8) (fun q => absurd h13 (Int32.not_le.mpr q))
      · refine pv_iconst d_Y_place_16 (nI 0) (by decide) ?_
        refine pv_zret d_Y_place_17 (by first | rfl | decide) ?_
        exact k

set_option maxRecDepth 100000 in
set_option maxHeartbeats 4000000 in
theorem k_Y_place {post : Int32 → List va_E → Prop} (hξ : ξ.length = 40) {n j : Nat} (hn : n < 5) (hj : j < 3) (k : post (nI 1) (ξ ++ memY (sU τ 1 n j))) : pv_M l D ty base b 1 0 0 (fun _ => True) y_Y_place c_Y_place 3 (some .boolean) [.ref (40 + 1), .int (nI (n)), .int (nI (j))] (ξ ++ memY τ) (pv_QI D ty base b post) := by
  refine pv_enter [some (.ref (40 + 1)), some (.int (nI (n))), some (.int (nI (j)))] (by decide) (fun _ => rfl) (fun _ => Nat.le_of_ble_eq_true rfl) ?_
  refine pv_iload_n d_Y_place_0 rfl rfl ?_
  refine pv_callS1I d_Y_place_1 (k_Y_outside hn ?_) sb_Y_outside wm_Y_76 ws_Y_outside (by decide) (by decide) (Nat.le_of_ble_eq_true rfl) (by decide) (by decide)
  first | refine pv_ifN_ne 16 (by decide) d_Y_place_4 (by first | assumption | omega | exact Nat.lt_of_le_of_lt Nat.and_le_right (by decide)) (fun h4 => ?_) (fun h4 => ?_) | refine pv_if_ne 16 (by decide) d_Y_place_4 (fun h4 => ?_) (fun h4 => ?_)
  · refine pv_iconst d_Y_place_16 (nI 0) (by decide) ?_
    refine pv_zret d_Y_place_17 (by first | rfl | decide) ?_
    exact absurd rfl h4
  · refine pv_iload_n d_Y_place_7 rfl rfl ?_
    refine pv_if_lt 16 (by decide) d_Y_place_8 (fun h8 => ?_) (fun h8 => ?_)
    · refine pv_iconst d_Y_place_16 (nI 0) (by decide) ?_
      refine pv_zret d_Y_place_17 (by first | rfl | decide) ?_
      exact absurd h8 (nI_pos (by omega))
    · refine pv_iload_n d_Y_place_11 rfl rfl ?_
      refine pv_iconst d_Y_place_12 (nI 2) (by decide) ?_
      first | refine pv_icmpN_le 18 (by decide) d_Y_place_13 (by first | assumption | omega | exact Nat.lt_of_le_of_lt Nat.and_le_right (by decide)) (by first | assumption | omega | exact Nat.lt_of_le_of_lt Nat.and_le_right (by decide)) (fun h13 => ?_) (fun h13 => ?_) | refine pv_icmp_le 18 (by decide) d_Y_place_13 (fun h13 => ?_) (fun h13 => ?_)
      · refine pv_aload_n d_Y_place_18 rfl rfl ?_
        refine gY_area d_Y_place_19 ff_Y_13 (by first | assumption | omega) ?_
        refine pv_iload_n d_Y_place_22 rfl rfl ?_
        refine pv_iload_n d_Y_place_23 rfl rfl ?_
        refine sy_area d_Y_place_24 (by first | assumption | omega) (by first | assumption | omega) ?_
        refine pv_iconst d_Y_place_25 (nI 1) (by decide) ?_
        refine pv_zret d_Y_place_26 (by first | rfl | decide) ?_
        exact k
      · refine pv_iconst d_Y_place_16 (nI 0) (by decide) ?_
        refine pv_zret d_Y_place_17 (by first | rfl | decide) ?_
        omega

set_option maxRecDepth 100000 in
set_option maxHeartbeats 4000000 in
theorem k_Y_deafen_no {post : Int32 → List va_E → Prop} (hξ : ξ.length = 40) {x y : Int32} (h : x < 0 ∨ nI 4 < x) (k : post (nI 0) (ξ ++ memY τ)) : pv_M l D ty base b 2 0 0 (fun _ => True) y_Y_deafen c_Y_deafen 3 (some .boolean) [.ref (40 + 1), .int x, .int y] (ξ ++ memY τ) (pv_QI D ty base b post) := by
  refine pv_enter [some (.ref (40 + 1)), some (.int x), some (.int y)] (by decide) (fun _ => rfl) (fun _ => Nat.le_of_ble_eq_true rfl) ?_
  refine pv_aload_n d_Y_deafen_0 rfl rfl ?_
  refine pv_iload_n d_Y_deafen_1 rfl rfl ?_
  refine pv_callV1I d_Y_deafen_2 (k_Y_refuse_no hξ h ?_) sb_Y_refuse wm_Y_91 (gy_Y (by first | assumption | omega)) rfl ⟨wi_Y_refuse, we_Y_refuse⟩ (by decide) (by decide) (Nat.le_of_ble_eq_true rfl) (by decide) (by decide)
  first | refine pv_ifN_ne 18 (by decide) d_Y_deafen_5 (by first | assumption | omega | exact Nat.lt_of_le_of_lt Nat.and_le_right (by decide)) (fun h5 => ?_) (fun h5 => ?_) | refine pv_if_ne 18 (by decide) d_Y_deafen_5 (fun h5 => ?_) (fun h5 => ?_)
  · refine pv_iconst d_Y_deafen_18 (nI 0) (by decide) ?_
    refine pv_zret d_Y_deafen_19 (by first | rfl | decide) ?_
    exact k
  · exact absurd h5 (by decide)

set_option maxRecDepth 100000 in
set_option maxHeartbeats 4000000 in
theorem k_Y_deafen_dn {post : Int32 → List va_E → Prop} (hξ : ξ.length = 40) {n : Nat} (hn : n < 5) (hb : bY τ) (hu : τ 0 n = 0) {y : Int32} (k : post (nI 0) (ξ ++ memY τ)) : pv_M l D ty base b 2 0 0 (fun _ => True) y_Y_deafen c_Y_deafen 3 (some .boolean) [.ref (40 + 1), .int (nI (n)), .int y] (ξ ++ memY τ) (pv_QI D ty base b post) := by
  refine pv_enter [some (.ref (40 + 1)), some (.int (nI (n))), some (.int y)] (by decide) (fun _ => rfl) (fun _ => Nat.le_of_ble_eq_true rfl) ?_
  refine pv_aload_n d_Y_deafen_0 rfl rfl ?_
  refine pv_iload_n d_Y_deafen_1 rfl rfl ?_
  refine pv_callV1I d_Y_deafen_2 (k_Y_refuse_dn hξ hn hb hu ?_) sb_Y_refuse wm_Y_91 (gy_Y (by first | assumption | omega)) rfl ⟨wi_Y_refuse, we_Y_refuse⟩ (by decide) (by decide) (Nat.le_of_ble_eq_true rfl) (by decide) (by decide)
  first | refine pv_ifN_ne 18 (by decide) d_Y_deafen_5 (by first | assumption | omega | exact Nat.lt_of_le_of_lt Nat.and_le_right (by decide)) (fun h5 => ?_) (fun h5 => ?_) | refine pv_if_ne 18 (by decide) d_Y_deafen_5 (fun h5 => ?_) (fun h5 => ?_)
  · refine pv_iconst d_Y_deafen_18 (nI 0) (by decide) ?_
    refine pv_zret d_Y_deafen_19 (by first | rfl | decide) ?_
    exact k
  · exact absurd h5 (by decide)

set_option maxRecDepth 100000 in
set_option maxHeartbeats 4000000 in
theorem k_Y_deafen_out {post : Int32 → List va_E → Prop} (hξ : ξ.length = 40) {n : Nat} (hn : n < 5) (hb : bY τ) (hu : τ 0 n ≠ 0) {y : Int32} (hy : y < 0 ∨ nI 20 < y) (k : post (nI 0) (ξ ++ memY τ)) : pv_M l D ty base b 2 0 0 (fun _ => True) y_Y_deafen c_Y_deafen 3 (some .boolean) [.ref (40 + 1), .int (nI (n)), .int y] (ξ ++ memY τ) (pv_QI D ty base b post) := by
  refine pv_enter [some (.ref (40 + 1)), some (.int (nI (n))), some (.int y)] (by decide) (fun _ => rfl) (fun _ => Nat.le_of_ble_eq_true rfl) ?_
  refine pv_aload_n d_Y_deafen_0 rfl rfl ?_
  refine pv_iload_n d_Y_deafen_1 rfl rfl ?_
  refine pv_callV1I d_Y_deafen_2 (k_Y_refuse_up hξ hn hb hu ?_) sb_Y_refuse wm_Y_91 (gy_Y (by first | assumption | omega)) rfl ⟨wi_Y_refuse, we_Y_refuse⟩ (by decide) (by decide) (Nat.le_of_ble_eq_true rfl) (by decide) (by decide)
  first | refine pv_ifN_ne 18 (by decide) d_Y_deafen_5 (by first | assumption | omega | exact Nat.lt_of_le_of_lt Nat.and_le_right (by decide)) (fun h5 => ?_) (fun h5 => ?_) | refine pv_if_ne 18 (by decide) d_Y_deafen_5 (fun h5 => ?_) (fun h5 => ?_)
  · refine pv_iconst d_Y_deafen_18 (nI 0) (by decide) ?_
    refine pv_zret d_Y_deafen_19 (by first | rfl | decide) ?_
    exact absurd rfl h5
  · refine pv_iload_n d_Y_deafen_8 rfl rfl ?_
    refine pv_if_lt 18 (by decide) d_Y_deafen_9 (fun h9 => ?_) (fun h9 => ?_)
    · refine pv_iconst d_Y_deafen_18 (nI 0) (by decide) ?_
      refine pv_zret d_Y_deafen_19 (by first | rfl | decide) ?_
      exact k
    · refine pv_iload_n d_Y_deafen_12 rfl rfl ?_
      refine pv_bipush d_Y_deafen_13 (nI 20) (by decide) ?_
      first | refine pv_icmpN_le 20 (by decide) d_Y_deafen_15 (by first | assumption | omega | exact Nat.lt_of_le_of_lt Nat.and_le_right (by decide)) (by first | assumption | omega | exact Nat.lt_of_le_of_lt Nat.and_le_right (by decide)) (fun h15 => ?_) (fun h15 => ?_) | refine pv_icmp_le 20 (by decide) d_Y_deafen_15 (fun h15 => ?_) (fun h15 => ?_)
      · exact hy.elim (fun q => absurd q h9) (fun q => absurd h15 (Int32.not_le.mpr q))
      · refine pv_iconst d_Y_deafen_18 (nI 0) (by decide) ?_
        refine pv_zret d_Y_deafen_19 (by first | rfl | decide) ?_
        exact k

set_option maxRecDepth 100000 in
set_option maxHeartbeats 4000000 in
theorem k_Y_deafen {post : Int32 → List va_E → Prop} (hξ : ξ.length = 40) {n : Nat} (hn : n < 5) (hb : bY τ) (hu : τ 0 n ≠ 0) {j : Nat} (hj : j ≤ 20) (k : post (nI 1) (ξ ++ memY (sU τ 5 n j))) : pv_M l D ty base b 2 0 0 (fun _ => True) y_Y_deafen c_Y_deafen 3 (some .boolean) [.ref (40 + 1), .int (nI (n)), .int (nI (j))] (ξ ++ memY τ) (pv_QI D ty base b post) := by
  refine pv_enter [some (.ref (40 + 1)), some (.int (nI (n))), some (.int (nI (j)))] (by decide) (fun _ => rfl) (fun _ => Nat.le_of_ble_eq_true rfl) ?_
  refine pv_aload_n d_Y_deafen_0 rfl rfl ?_
  refine pv_iload_n d_Y_deafen_1 rfl rfl ?_
  refine pv_callV1I d_Y_deafen_2 (k_Y_refuse_up hξ hn hb hu ?_) sb_Y_refuse wm_Y_91 (gy_Y (by first | assumption | omega)) rfl ⟨wi_Y_refuse, we_Y_refuse⟩ (by decide) (by decide) (Nat.le_of_ble_eq_true rfl) (by decide) (by decide)
  first | refine pv_ifN_ne 18 (by decide) d_Y_deafen_5 (by first | assumption | omega | exact Nat.lt_of_le_of_lt Nat.and_le_right (by decide)) (fun h5 => ?_) (fun h5 => ?_) | refine pv_if_ne 18 (by decide) d_Y_deafen_5 (fun h5 => ?_) (fun h5 => ?_)
  · refine pv_iconst d_Y_deafen_18 (nI 0) (by decide) ?_
    refine pv_zret d_Y_deafen_19 (by first | rfl | decide) ?_
    exact absurd rfl h5
  · refine pv_iload_n d_Y_deafen_8 rfl rfl ?_
    refine pv_if_lt 18 (by decide) d_Y_deafen_9 (fun h9 => ?_) (fun h9 => ?_)
    · refine pv_iconst d_Y_deafen_18 (nI 0) (by decide) ?_
      refine pv_zret d_Y_deafen_19 (by first | rfl | decide) ?_
      exact absurd h9 (nI_pos (by omega))
    · refine pv_iload_n d_Y_deafen_12 rfl rfl ?_
      refine pv_bipush d_Y_deafen_13 (nI 20) (by decide) ?_
      first | refine pv_icmpN_le 20 (by decide) d_Y_deafen_15 (by first | assumption | omega | exact Nat.lt_of_le_of_lt Nat.and_le_right (by decide)) (by first | assumption | omega | exact Nat.lt_of_le_of_lt Nat.and_le_right (by decide)) (fun h15 => ?_) (fun h15 => ?_) | refine pv_icmp_le 20 (by decide) d_Y_deafen_15 (fun h15 => ?_) (fun h15 => ?_)
      · refine pv_aload_n d_Y_deafen_20 rfl rfl ?_
        refine gY_deaf d_Y_deafen_21 ff_Y_26 (by first | assumption | omega) ?_
        refine pv_iload_n d_Y_deafen_24 rfl rfl ?_
        refine pv_iload_n d_Y_deafen_25 rfl rfl ?_
        refine sy_deaf d_Y_deafen_26 (by first | assumption | omega) (by first | assumption | omega) ?_
        refine pv_iconst d_Y_deafen_27 (nI 1) (by decide) ?_
        refine pv_zret d_Y_deafen_28 (by first | rfl | decide) ?_
        exact k
      · refine pv_iconst d_Y_deafen_18 (nI 0) (by decide) ?_
        refine pv_zret d_Y_deafen_19 (by first | rfl | decide) ?_
        omega

set_option maxRecDepth 100000 in
set_option maxHeartbeats 4000000 in
theorem k_Y_delivered_no {post : Int32 → List va_E → Prop} (hξ : ξ.length = 40) {x : Int32} (h : x < 0 ∨ nI 4 < x) (k : post (-3) (ξ ++ memY τ)) : pv_M l D ty base b 1 0 0 (fun _ => True) y_Y_delivered c_Y_delivered 2 (some .int) [.ref (40 + 1), .int x] (ξ ++ memY τ) (pv_QI D ty base b post) := by
  refine pv_enter [some (.ref (40 + 1)), some (.int x)] (by decide) (fun _ => rfl) (fun _ => Nat.le_of_ble_eq_true rfl) ?_
  refine pv_iload_n d_Y_delivered_0 rfl rfl ?_
  refine pv_callS1I d_Y_delivered_1 (k_Y_outside_no h ?_) sb_Y_outside wm_Y_76 ws_Y_outside (by decide) (by decide) (Nat.le_of_ble_eq_true rfl) (by decide) (by decide)
  first | refine pv_ifN_eq 12 (by decide) d_Y_delivered_4 (by first | assumption | omega | exact Nat.lt_of_le_of_lt Nat.and_le_right (by decide)) (fun h4 => ?_) (fun h4 => ?_) | refine pv_if_eq 12 (by decide) d_Y_delivered_4 (fun h4 => ?_) (fun h4 => ?_)
  · exact absurd h4 (by decide)
  · refine pv_bipush d_Y_delivered_7 (-3) (by decide) ?_
    refine pv_goto 18 (by decide) d_Y_delivered_9 ?_
    refine pv_iret d_Y_delivered_18 ?_
    exact k

set_option maxRecDepth 100000 in
set_option maxHeartbeats 4000000 in
theorem k_Y_delivered {post : Int32 → List va_E → Prop} (hξ : ξ.length = 40) {n : Nat} (hn : n < 5) (k : post (nI (τ 9 n)) (ξ ++ memY τ)) : pv_M l D ty base b 1 0 0 (fun _ => True) y_Y_delivered c_Y_delivered 2 (some .int) [.ref (40 + 1), .int (nI (n))] (ξ ++ memY τ) (pv_QI D ty base b post) := by
  refine pv_enter [some (.ref (40 + 1)), some (.int (nI (n)))] (by decide) (fun _ => rfl) (fun _ => Nat.le_of_ble_eq_true rfl) ?_
  refine pv_iload_n d_Y_delivered_0 rfl rfl ?_
  refine pv_callS1I d_Y_delivered_1 (k_Y_outside hn ?_) sb_Y_outside wm_Y_76 ws_Y_outside (by decide) (by decide) (Nat.le_of_ble_eq_true rfl) (by decide) (by decide)
  first | refine pv_ifN_eq 12 (by decide) d_Y_delivered_4 (by first | assumption | omega | exact Nat.lt_of_le_of_lt Nat.and_le_right (by decide)) (fun h4 => ?_) (fun h4 => ?_) | refine pv_if_eq 12 (by decide) d_Y_delivered_4 (fun h4 => ?_) (fun h4 => ?_)
  · refine pv_aload_n d_Y_delivered_12 rfl rfl ?_
    refine gY_entries d_Y_delivered_13 ff_Y_38 (by first | assumption | omega) ?_
    refine pv_iload_n d_Y_delivered_16 rfl rfl ?_
    refine ly_entries d_Y_delivered_17 (by first | assumption | omega) (by first | assumption | omega) ?_
    refine pv_iret d_Y_delivered_18 ?_
    exact k
  · refine pv_bipush d_Y_delivered_7 (-3) (by decide) ?_
    refine pv_goto 18 (by decide) d_Y_delivered_9 ?_
    refine pv_iret d_Y_delivered_18 ?_
    exact absurd rfl h4

set_option maxRecDepth 100000 in
set_option maxHeartbeats 4000000 in
theorem k_Y_log_no {post : Int32 → List va_E → Prop} (hξ : ξ.length = 40) {x y : Int32} (h : x < 0 ∨ nI 4 < x) (k : post (-3) (ξ ++ memY τ)) : pv_M l D ty base b 1 0 0 (fun _ => True) y_Y_log c_Y_log 3 (some .int) [.ref (40 + 1), .int x, .int y] (ξ ++ memY τ) (pv_QI D ty base b post) := by
  refine pv_enter [some (.ref (40 + 1)), some (.int x), some (.int y)] (by decide) (fun _ => rfl) (fun _ => Nat.le_of_ble_eq_true rfl) ?_
  refine pv_iload_n d_Y_log_0 rfl rfl ?_
  refine pv_callS1I d_Y_log_1 (k_Y_outside_no h ?_) sb_Y_outside wm_Y_76 ws_Y_outside (by decide) (by decide) (Nat.le_of_ble_eq_true rfl) (by decide) (by decide)
  first | refine pv_ifN_ne 21 (by decide) d_Y_log_4 (by first | assumption | omega | exact Nat.lt_of_le_of_lt Nat.and_le_right (by decide)) (fun h4 => ?_) (fun h4 => ?_) | refine pv_if_ne 21 (by decide) d_Y_log_4 (fun h4 => ?_) (fun h4 => ?_)
  · refine pv_bipush d_Y_log_21 (-3) (by decide) ?_
    refine pv_goto 37 (by decide) d_Y_log_23 ?_
    refine pv_iret d_Y_log_37 ?_
    exact k
  · exact absurd h4 (by decide)

set_option maxRecDepth 100000 in
set_option maxHeartbeats 4000000 in
theorem k_Y_log_out {post : Int32 → List va_E → Prop} (hξ : ξ.length = 40) {n : Nat} {y : Int32} (hn : n < 5) (hy : y < 0 ∨ nI (τ 9 n) ≤ y) (k : post (-3) (ξ ++ memY τ)) : pv_M l D ty base b 1 0 0 (fun _ => True) y_Y_log c_Y_log 3 (some .int) [.ref (40 + 1), .int (nI (n)), .int y] (ξ ++ memY τ) (pv_QI D ty base b post) := by
  refine pv_enter [some (.ref (40 + 1)), some (.int (nI (n))), some (.int y)] (by decide) (fun _ => rfl) (fun _ => Nat.le_of_ble_eq_true rfl) ?_
  refine pv_iload_n d_Y_log_0 rfl rfl ?_
  refine pv_callS1I d_Y_log_1 (k_Y_outside hn ?_) sb_Y_outside wm_Y_76 ws_Y_outside (by decide) (by decide) (Nat.le_of_ble_eq_true rfl) (by decide) (by decide)
  first | refine pv_ifN_ne 21 (by decide) d_Y_log_4 (by first | assumption | omega | exact Nat.lt_of_le_of_lt Nat.and_le_right (by decide)) (fun h4 => ?_) (fun h4 => ?_) | refine pv_if_ne 21 (by decide) d_Y_log_4 (fun h4 => ?_) (fun h4 => ?_)
  · refine pv_bipush d_Y_log_21 (-3) (by decide) ?_
    refine pv_goto 37 (by decide) d_Y_log_23 ?_
    refine pv_iret d_Y_log_37 ?_
    exact absurd rfl h4
  · refine pv_iload_n d_Y_log_7 rfl rfl ?_
    refine pv_if_lt 21 (by decide) d_Y_log_8 (fun h8 => ?_) (fun h8 => ?_)
    · refine pv_bipush d_Y_log_21 (-3) (by decide) ?_
      refine pv_goto 37 (by decide) d_Y_log_23 ?_
      refine pv_iret d_Y_log_37 ?_
      exact k
    · refine pv_iload_n d_Y_log_11 rfl rfl ?_
      refine pv_aload_n d_Y_log_12 rfl rfl ?_
      refine gY_entries d_Y_log_13 ff_Y_38 (by first | assumption | omega) ?_
      refine pv_iload_n d_Y_log_16 rfl rfl ?_
      refine ly_entries d_Y_log_17 (by first | assumption | omega) (by first | assumption | omega) ?_
      first | refine pv_icmpN_lt 26 (by decide) d_Y_log_18 (by first | assumption | omega | exact Nat.lt_of_le_of_lt Nat.and_le_right (by decide)) (by first | assumption | omega | exact Nat.lt_of_le_of_lt Nat.and_le_right (by decide)) (fun h18 => ?_) (fun h18 => ?_) | refine pv_icmp_lt 26 (by decide) d_Y_log_18 (fun h18 => ?_) (fun h18 => ?_)
      · exact hy.elim (fun q => absurd q h8) (fun q => absurd h18 (Int32.not_lt.mpr q))
      · refine pv_bipush d_Y_log_21 (-3) (by decide) ?_
        refine pv_goto 37 (by decide) d_Y_log_23 ?_
        refine pv_iret d_Y_log_37 ?_
        exact k

set_option maxRecDepth 100000 in
set_option maxHeartbeats 4000000 in
theorem k_Y_log {post : Int32 → List va_E → Prop} (hξ : ξ.length = 40) {n j : Nat} (hn : n < 5) (hb : bY τ) (hj : j < τ 9 n) (k : post (nI (τ 8 (48 * n + j))) (ξ ++ memY τ)) : pv_M l D ty base b 1 0 0 (fun _ => True) y_Y_log c_Y_log 3 (some .int) [.ref (40 + 1), .int (nI (n)), .int (nI (j))] (ξ ++ memY τ) (pv_QI D ty base b post) := by
  refine pv_enter [some (.ref (40 + 1)), some (.int (nI (n))), some (.int (nI (j)))] (by decide) (fun _ => rfl) (fun _ => Nat.le_of_ble_eq_true rfl) ?_
  have q9 : τ 9 n < 49 := hb 9 n
  refine pv_iload_n d_Y_log_0 rfl rfl ?_
  refine pv_callS1I d_Y_log_1 (k_Y_outside hn ?_) sb_Y_outside wm_Y_76 ws_Y_outside (by decide) (by decide) (Nat.le_of_ble_eq_true rfl) (by decide) (by decide)
  first | refine pv_ifN_ne 21 (by decide) d_Y_log_4 (by first | assumption | omega | exact Nat.lt_of_le_of_lt Nat.and_le_right (by decide)) (fun h4 => ?_) (fun h4 => ?_) | refine pv_if_ne 21 (by decide) d_Y_log_4 (fun h4 => ?_) (fun h4 => ?_)
  · refine pv_bipush d_Y_log_21 (-3) (by decide) ?_
    refine pv_goto 37 (by decide) d_Y_log_23 ?_
    refine pv_iret d_Y_log_37 ?_
    exact absurd rfl h4
  · refine pv_iload_n d_Y_log_7 rfl rfl ?_
    refine pv_if_lt 21 (by decide) d_Y_log_8 (fun h8 => ?_) (fun h8 => ?_)
    · refine pv_bipush d_Y_log_21 (-3) (by decide) ?_
      refine pv_goto 37 (by decide) d_Y_log_23 ?_
      refine pv_iret d_Y_log_37 ?_
      exact absurd h8 (nI_pos (by omega))
    · refine pv_iload_n d_Y_log_11 rfl rfl ?_
      refine pv_aload_n d_Y_log_12 rfl rfl ?_
      refine gY_entries d_Y_log_13 ff_Y_38 (by first | assumption | omega) ?_
      refine pv_iload_n d_Y_log_16 rfl rfl ?_
      refine ly_entries d_Y_log_17 (by first | assumption | omega) (by first | assumption | omega) ?_
      first | refine pv_icmpN_lt 26 (by decide) d_Y_log_18 (by first | assumption | omega | exact Nat.lt_of_le_of_lt Nat.and_le_right (by decide)) (by first | assumption | omega | exact Nat.lt_of_le_of_lt Nat.and_le_right (by decide)) (fun h18 => ?_) (fun h18 => ?_) | refine pv_icmp_lt 26 (by decide) d_Y_log_18 (fun h18 => ?_) (fun h18 => ?_)
      · refine pv_aload_n d_Y_log_26 rfl rfl ?_
        refine gY_logs d_Y_log_27 ff_Y_35 (by first | assumption | omega) ?_
        refine pv_bipush d_Y_log_30 (nI 48) (by decide) ?_
        refine pv_iload_n d_Y_log_32 rfl rfl ?_
        first | refine pv_imulN d_Y_log_33 ?_ | refine pv_imul d_Y_log_33 ?_
        refine pv_iload_n d_Y_log_34 rfl rfl ?_
        first | refine pv_iaddN d_Y_log_35 ?_ | refine pv_iadd d_Y_log_35 ?_
        refine ly_logs d_Y_log_36 (by first | assumption | omega) (by first | assumption | omega) ?_
        refine pv_iret d_Y_log_37 ?_
        exact k
      · refine pv_bipush d_Y_log_21 (-3) (by decide) ?_
        refine pv_goto 37 (by decide) d_Y_log_23 ?_
        refine pv_iret d_Y_log_37 ?_
        omega

set_option maxRecDepth 100000 in
set_option maxHeartbeats 4000000 in
theorem k_Y_stamp_out {post : Int32 → List va_E → Prop} (hξ : ξ.length = 40) {y : Int32} (hb : bY τ) (hy : y < nI 1 ∨ nI (τ 10 0) < y) (k : post (-3) (ξ ++ memY τ)) : pv_M l D ty base b 0 0 0 (fun _ => True) y_Y_stamp c_Y_stamp 2 (some .int) [.ref (40 + 1), .int y] (ξ ++ memY τ) (pv_QI D ty base b post) := by
  refine pv_enter [some (.ref (40 + 1)), some (.int y)] (by decide) (fun _ => rfl) (fun _ => Nat.le_of_ble_eq_true rfl) ?_
  refine pv_iload_n d_Y_stamp_0 rfl rfl ?_
  refine pv_iconst d_Y_stamp_1 (nI 1) (by decide) ?_
  first | refine pv_icmpN_lt 13 (by decide) d_Y_stamp_2 (by first | assumption | omega | exact Nat.lt_of_le_of_lt Nat.and_le_right (by decide)) (by first | assumption | omega | exact Nat.lt_of_le_of_lt Nat.and_le_right (by decide)) (fun h2 => ?_) (fun h2 => ?_) | refine pv_icmp_lt 13 (by decide) d_Y_stamp_2 (fun h2 => ?_) (fun h2 => ?_)
  · refine pv_bipush d_Y_stamp_13 (-3) (by decide) ?_
    refine pv_goto 47 (by decide) d_Y_stamp_15 ?_
    refine pv_iret d_Y_stamp_47 ?_
    exact k
  · refine pv_iload_n d_Y_stamp_5 rfl rfl ?_
    refine pv_aload_n d_Y_stamp_6 rfl rfl ?_
    refine gY_messages d_Y_stamp_7 ff_Y_80 (by first | assumption | omega) ?_
    first | refine pv_icmpN_le 18 (by decide) d_Y_stamp_10 (by first | assumption | omega | exact Nat.lt_of_le_of_lt Nat.and_le_right (by decide)) (by first | assumption | omega | exact Nat.lt_of_le_of_lt Nat.and_le_right (by decide)) (fun h10 => ?_) (fun h10 => ?_) | refine pv_icmp_le 18 (by decide) d_Y_stamp_10 (fun h10 => ?_) (fun h10 => ?_)
    · exact hy.elim (fun q => absurd q h2) (fun q => absurd h10 (Int32.not_le.mpr q))
    · refine pv_bipush d_Y_stamp_13 (-3) (by decide) ?_
      refine pv_goto 47 (by decide) d_Y_stamp_15 ?_
      refine pv_iret d_Y_stamp_47 ?_
      exact k

set_option maxRecDepth 100000 in
set_option maxHeartbeats 4000000 in
theorem k_Y_stamp {post : Int32 → List va_E → Prop} (hξ : ξ.length = 40) {j : Nat} (hb : bY τ) (h1 : 1 ≤ j) (h2 : j ≤ τ 10 0) (k : post (nI (b_stamp τ j)) (ξ ++ memY τ)) : pv_M l D ty base b 0 0 0 (fun _ => True) y_Y_stamp c_Y_stamp 2 (some .int) [.ref (40 + 1), .int (nI (j))] (ξ ++ memY τ) (pv_QI D ty base b post) := by
  refine pv_enter [some (.ref (40 + 1)), some (.int (nI (j)))] (by decide) (fun _ => rfl) (fun _ => Nat.le_of_ble_eq_true rfl) ?_
  have q10 : τ 10 0 < 49 := hb 10 0
  have q15 : τ 15 j < 49 := hb 15 j
  refine pv_iload_n d_Y_stamp_0 rfl rfl ?_
  refine pv_iconst d_Y_stamp_1 (nI 1) (by decide) ?_
  first | refine pv_icmpN_lt 13 (by decide) d_Y_stamp_2 (by first | assumption | omega | exact Nat.lt_of_le_of_lt Nat.and_le_right (by decide)) (by first | assumption | omega | exact Nat.lt_of_le_of_lt Nat.and_le_right (by decide)) (fun h2 => ?_) (fun h2 => ?_) | refine pv_icmp_lt 13 (by decide) d_Y_stamp_2 (fun h2 => ?_) (fun h2 => ?_)
  · refine pv_bipush d_Y_stamp_13 (-3) (by decide) ?_
    refine pv_goto 47 (by decide) d_Y_stamp_15 ?_
    refine pv_iret d_Y_stamp_47 ?_
    omega
  · refine pv_iload_n d_Y_stamp_5 rfl rfl ?_
    refine pv_aload_n d_Y_stamp_6 rfl rfl ?_
    refine gY_messages d_Y_stamp_7 ff_Y_80 (by first | assumption | omega) ?_
    first | refine pv_icmpN_le 18 (by decide) d_Y_stamp_10 (by first | assumption | omega | exact Nat.lt_of_le_of_lt Nat.and_le_right (by decide)) (by first | assumption | omega | exact Nat.lt_of_le_of_lt Nat.and_le_right (by decide)) (fun h10 => ?_) (fun h10 => ?_) | refine pv_icmp_le 18 (by decide) d_Y_stamp_10 (fun h10 => ?_) (fun h10 => ?_)
    · refine pv_aload_n d_Y_stamp_18 rfl rfl ?_
      refine gY_number d_Y_stamp_19 ff_Y_53 (by first | assumption | omega) ?_
      refine pv_iload_n d_Y_stamp_22 rfl rfl ?_
      refine ly_number d_Y_stamp_23 (by first | assumption | omega) (by first | assumption | omega) ?_
      first | refine pv_ifN_ne 31 (by decide) d_Y_stamp_24 (by first | assumption | omega | exact Nat.lt_of_le_of_lt Nat.and_le_right (by decide)) (fun h24 => ?_) (fun h24 => ?_) | refine pv_if_ne 31 (by decide) d_Y_stamp_24 (fun h24 => ?_) (fun h24 => ?_)
      · refine pv_aload_n d_Y_stamp_31 rfl rfl ?_
        refine gY_number d_Y_stamp_32 ff_Y_53 (by first | assumption | omega) ?_
        refine pv_iload_n d_Y_stamp_35 rfl rfl ?_
        refine ly_number d_Y_stamp_36 (by first | assumption | omega) (by first | assumption | omega) ?_
        refine pv_bipush d_Y_stamp_37 (nI 64) (by decide) ?_
        refine pv_aload_n d_Y_stamp_39 rfl rfl ?_
        refine gY_ringIn d_Y_stamp_40 ff_Y_50 (by first | assumption | omega) ?_
        refine pv_iload_n d_Y_stamp_43 rfl rfl ?_
        refine ly_ringIn d_Y_stamp_44 (by first | assumption | omega) (by first | assumption | omega) ?_
        first | refine pv_imulN d_Y_stamp_45 ?_ | refine pv_imul d_Y_stamp_45 ?_
        first | refine pv_iaddN d_Y_stamp_46 ?_ | refine pv_iadd d_Y_stamp_46 ?_
        refine pv_iret d_Y_stamp_47 ?_
        rw [b_stamp, if_neg h24] at k
        exact k
      · refine pv_iconst d_Y_stamp_27 (nI 0) (by decide) ?_
        refine pv_goto 47 (by decide) d_Y_stamp_28 ?_
        refine pv_iret d_Y_stamp_47 ?_
        rw [b_stamp, if_pos h24] at k
        exact k
    · refine pv_bipush d_Y_stamp_13 (-3) (by decide) ?_
      refine pv_goto 47 (by decide) d_Y_stamp_15 ?_
      refine pv_iret d_Y_stamp_47 ?_
      omega

end REF4
