/-! 25.ref5: visit of the reference -/
section REF5
variable {l : Launch} {D : va_G} {ty : Nat → ClassId} {base b : Nat} {τ : Nat → Nat → Nat} {ρ ξ : List va_E}
variable {M : List va_E}
set_option maxRecDepth 100000 in
set_option maxHeartbeats 4000000 in
theorem k_Y_visit_no {post : Int32 → List va_E → Prop} (hξ : ξ.length = 40) {x : Int32} (h : x < 0 ∨ nI 4 < x) (k : post (-3) (ξ ++ memY τ)) : pv_M l D ty base b 2 0 0 (fun _ => True) y_Y_visit c_Y_visit 9 (some .int) [.ref (40 + 1), .int x] (ξ ++ memY τ) (pv_QI D ty base b post) := by
  refine pv_enter [some (.ref (40 + 1)), some (.int x), none, none, none, none, none, none, none] (by decide) (fun _ => rfl) (fun _ => Nat.le_of_ble_eq_true rfl) ?_
  refine pv_aload_n d_Y_visit_0 rfl rfl ?_
  refine pv_iload_n d_Y_visit_1 rfl rfl ?_
  refine pv_callV1I d_Y_visit_2 (k_Y_refuse_no hξ h ?_) sb_Y_refuse wm_Y_91 (gy_Y (by first | assumption | omega)) rfl ⟨wi_Y_refuse, we_Y_refuse⟩ (by decide) (by decide) (Nat.le_of_ble_eq_true rfl) (by decide) (by decide)
  refine pv_ist2 d_Y_visit_5 rfl (by decide) ?_
  refine pv_iload_n d_Y_visit_6 rfl rfl ?_
  first | refine pv_ifN_eq 12 (by decide) d_Y_visit_7 (by first | assumption | omega | exact Nat.lt_of_le_of_lt Nat.and_le_right (by decide)) (fun h7 => ?_) (fun h7 => ?_) | refine pv_if_eq 12 (by decide) d_Y_visit_7 (fun h7 => ?_) (fun h7 => ?_)
  · exact absurd h7 (by decide)
  · refine pv_iload_n d_Y_visit_10 rfl rfl ?_
    refine pv_iret d_Y_visit_11 ?_
    exact k

set_option maxRecDepth 100000 in
set_option maxHeartbeats 4000000 in
theorem k_Y_visit_dn {post : Int32 → List va_E → Prop} (hξ : ξ.length = 40) {n : Nat} (hn : n < 5) (hb : bY τ) (hu : τ 0 n = 0) (k : post (-2) (ξ ++ memY τ)) : pv_M l D ty base b 2 0 0 (fun _ => True) y_Y_visit c_Y_visit 9 (some .int) [.ref (40 + 1), .int (nI (n))] (ξ ++ memY τ) (pv_QI D ty base b post) := by
  refine pv_enter [some (.ref (40 + 1)), some (.int (nI (n))), none, none, none, none, none, none, none] (by decide) (fun _ => rfl) (fun _ => Nat.le_of_ble_eq_true rfl) ?_
  refine pv_aload_n d_Y_visit_0 rfl rfl ?_
  refine pv_iload_n d_Y_visit_1 rfl rfl ?_
  refine pv_callV1I d_Y_visit_2 (k_Y_refuse_dn hξ hn hb hu ?_) sb_Y_refuse wm_Y_91 (gy_Y (by first | assumption | omega)) rfl ⟨wi_Y_refuse, we_Y_refuse⟩ (by decide) (by decide) (Nat.le_of_ble_eq_true rfl) (by decide) (by decide)
  refine pv_ist2 d_Y_visit_5 rfl (by decide) ?_
  refine pv_iload_n d_Y_visit_6 rfl rfl ?_
  first | refine pv_ifN_eq 12 (by decide) d_Y_visit_7 (by first | assumption | omega | exact Nat.lt_of_le_of_lt Nat.and_le_right (by decide)) (fun h7 => ?_) (fun h7 => ?_) | refine pv_if_eq 12 (by decide) d_Y_visit_7 (fun h7 => ?_) (fun h7 => ?_)
  · exact absurd h7 (by decide)
  · refine pv_iload_n d_Y_visit_10 rfl rfl ?_
    refine pv_iret d_Y_visit_11 ?_
    exact k

set_option maxRecDepth 100000 in
set_option maxHeartbeats 4000000 in
theorem k_Y_visit_up {post : Int32 → List va_E → Prop} (hξ : ξ.length = 40) {n : Nat} (hn : n < 5) (hb : bY τ) (hu : τ 0 n ≠ 0) (ok : τ 17 (τ 2 n) = n + 1 → y_visOK τ n (τ 2 n)) (k : post (b_visit τ n).1 (ξ ++ memY (b_visit τ n).2)) : pv_M l D ty base b 5 0 0 (fun _ => True) y_Y_visit c_Y_visit 9 (some .int) [.ref (40 + 1), .int (nI (n))] (ξ ++ memY τ) (pv_QI D ty base b post) := by
  refine pv_enter [some (.ref (40 + 1)), some (.int (nI (n))), none, none, none, none, none, none, none] (by decide) (fun _ => rfl) (fun _ => Nat.le_of_ble_eq_true rfl) ?_
  have hr : τ 2 n < 520 := hb 2 n
  refine pv_aload_n d_Y_visit_0 rfl rfl ?_
  refine pv_iload_n d_Y_visit_1 rfl rfl ?_
  refine pv_callV1I d_Y_visit_2 (k_Y_refuse_up hξ hn hb hu ?_) sb_Y_refuse wm_Y_91 (gy_Y (by first | assumption | omega)) rfl ⟨wi_Y_refuse, we_Y_refuse⟩ (by decide) (by decide) (Nat.le_of_ble_eq_true rfl) (by decide) (by decide)
  refine pv_ist2 d_Y_visit_5 rfl (by decide) ?_
  refine pv_iload_n d_Y_visit_6 rfl rfl ?_
  first | refine pv_ifN_eq 12 (by decide) d_Y_visit_7 (by first | assumption | omega | exact Nat.lt_of_le_of_lt Nat.and_le_right (by decide)) (fun h7 => ?_) (fun h7 => ?_) | refine pv_if_eq 12 (by decide) d_Y_visit_7 (fun h7 => ?_) (fun h7 => ?_)
  · refine pv_aload_n d_Y_visit_12 rfl rfl ?_
    refine gY_ringOf d_Y_visit_13 ff_Y_17 (by first | assumption | omega) ?_
    refine pv_iload_n d_Y_visit_16 rfl rfl ?_
    refine ly_ringOf d_Y_visit_17 (by first | assumption | omega) (by first | assumption | omega) ?_
    refine pv_ist3 d_Y_visit_18 rfl (by decide) ?_
    refine pv_aload_n d_Y_visit_19 rfl rfl ?_
    refine gY_at d_Y_visit_20 ff_Y_56 (by first | assumption | omega) ?_
    refine pv_iload_n d_Y_visit_23 rfl rfl ?_
    refine ly_at d_Y_visit_24 (by first | assumption | omega) (by first | assumption | omega) ?_
    refine pv_iload_n d_Y_visit_25 rfl rfl ?_
    first | refine pv_icmpN_eq 31 (by decide) d_Y_visit_26 (by first | assumption | omega | exact Nat.lt_of_le_of_lt Nat.and_le_right (by decide)) (by first | assumption | omega | exact Nat.lt_of_le_of_lt Nat.and_le_right (by decide)) (fun h26 => ?_) (fun h26 => ?_) | refine pv_icmp_eq 31 (by decide) d_Y_visit_26 (fun h26 => ?_) (fun h26 => ?_)
    · have htok := (tk_eq (Nat.lt_of_lt_of_le (hb 17 (τ 2 n)) (by decide)) (by omega)).mp h26
      have ok := ok htok
      have q18 : (u_s2 τ n (τ 2 n)) 18 (τ 2 n) < 49 := bY_u2 hb hr ok 18 _
      have loopD : ∀ (j i : Nat), i + j = 5 → pv_V l D ty base b c_Y_visit 9 y_Y_visit.cls (some .int) y_Y_visit.name (pv_rm 5 0 0) (fun _ => True) (pv_Qf base 0 0 (pv_QI D ty base b post)) 0 0 209 [some (.ref (40 + 1)), some (.int (nI (n))), some (.int (nI (0))), some (.int (nI ((τ 2 n)))), some (.int (nI ((y_rq n (τ 2 n) τ 48).2))), some (.int (nI ((y_nw n (τ 2 n) (y_rq n (τ 2 n) τ 48).1 2).2))), some (.int (nI (y_ls (u_s3 τ n (τ 2 n)) (τ 2 n) 5))), some (.int (nI (i))), none] [] (ξ ++ memY (y_dR (τ 2 n) (u_s4 τ n (τ 2 n)) i)) := by
        intro j
        induction j with
        | zero =>
          intro i hi
          refine pv_iload d_Y_visit_209 rfl ?_
          refine pv_iconst d_Y_visit_211 (nI 5) (by decide) ?_
          first | refine pv_icmpN_ge 248 (by decide) d_Y_visit_212 (by first | assumption | omega | exact Nat.lt_of_le_of_lt Nat.and_le_right (by decide)) (by first | assumption | omega | exact Nat.lt_of_le_of_lt Nat.and_le_right (by decide)) (fun h212 => ?_) (fun h212 => ?_) | refine pv_icmp_ge 248 (by decide) d_Y_visit_212 (fun h212 => ?_) (fun h212 => ?_)
          · obtain rfl : i = 5 := by omega
            refine pv_aload_n d_Y_visit_248 rfl rfl ?_
            refine gY_timer d_Y_visit_249 ff_Y_29 (by first | assumption | omega) ?_
            refine pv_iload_n d_Y_visit_252 rfl rfl ?_
            refine pv_iconst d_Y_visit_253 (nI 0) (by decide) ?_
            refine sy_timer d_Y_visit_254 (by first | assumption | omega) (by first | assumption | omega) ?_
            refine pv_aload_n d_Y_visit_255 rfl rfl ?_
            refine pv_iload_n d_Y_visit_256 rfl rfl ?_
            refine pv_callV1I d_Y_visit_257 (k_Y_stranger hξ hn (bY_u5 hb hr ok) ?_) sb_Y_stranger wm_Y_126 (gy_Y (by first | assumption | omega)) rfl ⟨wi_Y_stranger, we_Y_stranger⟩ (by decide) (by decide) (Nat.le_of_ble_eq_true rfl) (by decide) (by decide)
            have hbb := b2_lt (y_str (u_s5 τ n (τ 2 n)) n 5)
            first | refine pv_ifN_eq 276 (by decide) d_Y_visit_260 (by first | assumption | omega | exact Nat.lt_of_le_of_lt Nat.and_le_right (by decide)) (fun h260 => ?_) (fun h260 => ?_) | refine pv_if_eq 276 (by decide) d_Y_visit_260 (fun h260 => ?_) (fun h260 => ?_)
            · refine pv_aload_n d_Y_visit_276 rfl rfl ?_
              refine pv_iload_n d_Y_visit_277 rfl rfl ?_
              refine pv_iload_n d_Y_visit_278 rfl rfl ?_
              refine pv_callV2V d_Y_visit_279 (k_Y_passOn hξ hn hr (bY_u5 hb hr ok) ?_) sb_Y_passOn wm_Y_132 (gy_Y (by first | assumption | omega)) rfl ⟨wi_Y_passOn, we_Y_passOn⟩ (by decide) (by decide) (Nat.le_of_ble_eq_true rfl) (by decide) (by decide)
              refine pv_iload d_Y_visit_282 rfl ?_
              refine pv_iload d_Y_visit_284 rfl ?_
              first | refine pv_iaddN d_Y_visit_286 ?_ | refine pv_iadd d_Y_visit_286 ?_
              refine pv_iret d_Y_visit_287 ?_
              have h84 : b2 (y_str (u_s5 τ n (τ 2 n)) n 5) = 0 := h260
              rw [b_visit, if_neg hu, if_pos htok, u_s6, if_neg (by rw [b2_0.mp h84]; decide)] at k
              exact k
            · refine pv_aload_n d_Y_visit_263 rfl rfl ?_
              refine pv_aload_n d_Y_visit_264 rfl rfl ?_
              refine gY_area d_Y_visit_265 ff_Y_13 (by first | assumption | omega) ?_
              refine pv_iload_n d_Y_visit_268 rfl rfl ?_
              refine ly_area d_Y_visit_269 (by first | assumption | omega) (by first | assumption | omega) ?_
              refine pv_callV1V d_Y_visit_270 (k_Y_form (a := (u_s5 τ n (τ 2 n)) 1 n) hξ (Nat.lt_of_lt_of_le (bY_u5 hb hr ok 1 n) (by decide)) (bY_u5 hb hr ok) (ok.2.2 (b2_n0.mp (show ¬ b2 (y_str (u_s5 τ n (τ 2 n)) n 5) = 0 from h260))) ?_) sb_Y_form wm_Y_129 (gy_Y (by first | assumption | omega)) rfl ⟨wi_Y_form, we_Y_form⟩ (by decide) (by decide) (Nat.le_of_ble_eq_true rfl) (by decide) (by decide)
              refine pv_goto 282 (by decide) d_Y_visit_273 ?_
              refine pv_iload d_Y_visit_282 rfl ?_
              refine pv_iload d_Y_visit_284 rfl ?_
              first | refine pv_iaddN d_Y_visit_286 ?_ | refine pv_iadd d_Y_visit_286 ?_
              refine pv_iret d_Y_visit_287 ?_
              have h84 : ¬ b2 (y_str (u_s5 τ n (τ 2 n)) n 5) = 0 := h260
              rw [b_visit, if_neg hu, if_pos htok, u_s6, if_pos (b2_n0.mp h84)] at k
              exact k
          · omega
        | succ j ih =>
          intro i hi
          refine pv_iload d_Y_visit_209 rfl ?_
          refine pv_iconst d_Y_visit_211 (nI 5) (by decide) ?_
          first | refine pv_icmpN_ge 248 (by decide) d_Y_visit_212 (by first | assumption | omega | exact Nat.lt_of_le_of_lt Nat.and_le_right (by decide)) (by first | assumption | omega | exact Nat.lt_of_le_of_lt Nat.and_le_right (by decide)) (fun h212 => ?_) (fun h212 => ?_) | refine pv_icmp_ge 248 (by decide) d_Y_visit_212 (fun h212 => ?_) (fun h212 => ?_)
          · omega
          · have q0 : (y_dR (τ 2 n) (u_s4 τ n (τ 2 n)) i) 0 i < 2 := bY_dR (bY_u4 hb hr ok) ok.2.1 i (by omega) 0 i
            have q2 : (y_dR (τ 2 n) (u_s4 τ n (τ 2 n)) i) 2 i < 520 := bY_dR (bY_u4 hb hr ok) ok.2.1 i (by omega) 2 i
            refine pv_aload_n d_Y_visit_215 rfl rfl ?_
            refine gY_up d_Y_visit_216 ff_Y_7 (by first | assumption | omega) ?_
            refine pv_iload d_Y_visit_219 rfl ?_
            refine ly_up d_Y_visit_221 (by first | assumption | omega) (by first | assumption | omega) ?_
            first | refine pv_ifN_eq 242 (by decide) d_Y_visit_222 (by first | assumption | omega | exact Nat.lt_of_le_of_lt Nat.and_le_right (by decide)) (fun h222 => ?_) (fun h222 => ?_) | refine pv_if_eq 242 (by decide) d_Y_visit_222 (fun h222 => ?_) (fun h222 => ?_)
            · refine pv_inc7 d_Y_visit_242 rfl (by decide) ?_
              refine pv_goto 209 (by decide) d_Y_visit_245 ?_
              have hz := ih (i + 1) (by omega)
              rw [y_dR_s] at hz
              rw [if_neg (fun z => z.1 h222)] at hz
              exact hz
            · refine pv_aload_n d_Y_visit_225 rfl rfl ?_
              refine gY_ringOf d_Y_visit_226 ff_Y_17 (by first | assumption | omega) ?_
              refine pv_iload d_Y_visit_229 rfl ?_
              refine ly_ringOf d_Y_visit_231 (by first | assumption | omega) (by first | assumption | omega) ?_
              refine pv_iload_n d_Y_visit_232 rfl rfl ?_
              first | refine pv_icmpN_ne 242 (by decide) d_Y_visit_233 (by first | assumption | omega | exact Nat.lt_of_le_of_lt Nat.and_le_right (by decide)) (by first | assumption | omega | exact Nat.lt_of_le_of_lt Nat.and_le_right (by decide)) (fun h233 => ?_) (fun h233 => ?_) | refine pv_icmp_ne 242 (by decide) d_Y_visit_233 (fun h233 => ?_) (fun h233 => ?_)
              · refine pv_inc7 d_Y_visit_242 rfl (by decide) ?_
                refine pv_goto 209 (by decide) d_Y_visit_245 ?_
                have hz := ih (i + 1) (by omega)
                rw [y_dR_s] at hz
                rw [if_neg (fun z => h233 z.2)] at hz
                exact hz
              · refine pv_aload_n d_Y_visit_236 rfl rfl ?_
                refine pv_iload d_Y_visit_237 rfl ?_
                refine pv_callV1V d_Y_visit_239 (k_Y_deliver hξ (by omega) (bY_dR (bY_u4 hb hr ok) ok.2.1 i (by omega)) (ok.2.1 i (by omega) ⟨h222, h233⟩) ?_) sb_Y_deliver wm_Y_122 (gy_Y (by first | assumption | omega)) rfl ⟨wi_Y_deliver, we_Y_deliver⟩ (by decide) (by decide) (Nat.le_of_ble_eq_true rfl) (by decide) (by decide)
                refine pv_inc7 d_Y_visit_242 rfl (by decide) ?_
                refine pv_goto 209 (by decide) d_Y_visit_245 ?_
                have hz := ih (i + 1) (by omega)
                rw [y_dR_s] at hz
                rw [if_pos ⟨h222, h233⟩] at hz
                exact hz
      have loopL : ∀ (j i : Nat), i + j = 5 → pv_V l D ty base b c_Y_visit 9 y_Y_visit.cls (some .int) y_Y_visit.name (pv_rm 5 0 0) (fun _ => True) (pv_Qf base 0 0 (pv_QI D ty base b post)) 0 0 125 [some (.ref (40 + 1)), some (.int (nI (n))), some (.int (nI (0))), some (.int (nI ((τ 2 n)))), some (.int (nI ((y_rq n (τ 2 n) τ 48).2))), some (.int (nI ((y_nw n (τ 2 n) (y_rq n (τ 2 n) τ 48).1 2).2))), some (.int (nI (y_ls (u_s3 τ n (τ 2 n)) (τ 2 n) i))), some (.int (nI (i))), none] [] (ξ ++ memY (u_s3 τ n (τ 2 n))) := by
        intro j
        induction j with
        | zero =>
          intro i hi
          refine pv_iload d_Y_visit_125 rfl ?_
          refine pv_iconst d_Y_visit_127 (nI 5) (by decide) ?_
          first | refine pv_icmpN_ge 198 (by decide) d_Y_visit_128 (by first | assumption | omega | exact Nat.lt_of_le_of_lt Nat.and_le_right (by decide)) (by first | assumption | omega | exact Nat.lt_of_le_of_lt Nat.and_le_right (by decide)) (fun h128 => ?_) (fun h128 => ?_) | refine pv_icmp_ge 198 (by decide) d_Y_visit_128 (fun h128 => ?_) (fun h128 => ?_)
          · refine pv_aload_n d_Y_visit_198 rfl rfl ?_
            refine gY_lineOf d_Y_visit_199 ff_Y_20 (by first | assumption | omega) ?_
            refine pv_iload_n d_Y_visit_202 rfl rfl ?_
            refine pv_iload d_Y_visit_203 rfl ?_
            refine sy_lineOf d_Y_visit_205 (by first | assumption | omega) (by first | assumption | omega) ?_
            refine pv_iconst d_Y_visit_206 (nI 0) (by decide) ?_
            refine pv_ist7 d_Y_visit_207 rfl (by decide) ?_
            obtain rfl : i = 5 := by omega
            exact loopD 5 0 rfl
          · omega
        | succ j ih =>
          intro i hi
          refine pv_iload d_Y_visit_125 rfl ?_
          refine pv_iconst d_Y_visit_127 (nI 5) (by decide) ?_
          first | refine pv_icmpN_ge 198 (by decide) d_Y_visit_128 (by first | assumption | omega | exact Nat.lt_of_le_of_lt Nat.and_le_right (by decide)) (by first | assumption | omega | exact Nat.lt_of_le_of_lt Nat.and_le_right (by decide)) (fun h128 => ?_) (fun h128 => ?_) | refine pv_icmp_ge 198 (by decide) d_Y_visit_128 (fun h128 => ?_) (fun h128 => ?_)
          · omega
          · have q19 : (u_s3 τ n (τ 2 n)) 19 (τ 2 n) < 32 := bY_u3 hb hr ok 19 _
            have q20 : (u_s3 τ n (τ 2 n)) 20 (5 * (τ 2 n) + i) < 49 := bY_u3 hb hr ok 20 _
            have ql := y_ls_le (s := (u_s3 τ n (τ 2 n))) (r := (τ 2 n)) i
            refine pv_aload_n d_Y_visit_131 rfl rfl ?_
            refine gY_memberBits d_Y_visit_132 ff_Y_62 (by first | assumption | omega) ?_
            refine pv_iload_n d_Y_visit_135 rfl rfl ?_
            refine ly_memberBits d_Y_visit_136 (by first | assumption | omega) (by first | assumption | omega) ?_
            refine pv_iload d_Y_visit_137 rfl ?_
            refine pv_ishrN d_Y_visit_139 (by first | assumption | omega) (by first | assumption | omega) ?_
            refine pv_iconst d_Y_visit_140 (nI 1) (by decide) ?_
            first | refine pv_iandN d_Y_visit_141 ?_ | refine pv_iand d_Y_visit_141 ?_
            refine pv_iconst d_Y_visit_142 (nI 1) (by decide) ?_
            first | refine pv_icmpN_ne 150 (by decide) d_Y_visit_143 (by first | assumption | omega | exact Nat.lt_of_le_of_lt Nat.and_le_right (by decide)) (by first | assumption | omega | exact Nat.lt_of_le_of_lt Nat.and_le_right (by decide)) (fun h143 => ?_) (fun h143 => ?_) | refine pv_icmp_ne 150 (by decide) d_Y_visit_143 (fun h143 => ?_) (fun h143 => ?_)
            · refine pv_iconst d_Y_visit_150 (nI 0) (by decide) ?_
              refine pv_ist8 d_Y_visit_151 rfl (by decide) ?_
              refine pv_iload d_Y_visit_153 rfl ?_
              first | refine pv_ifN_eq 188 (by decide) d_Y_visit_155 (by first | assumption | omega | exact Nat.lt_of_le_of_lt Nat.and_le_right (by decide)) (fun h155 => ?_) (fun h155 => ?_) | refine pv_if_eq 188 (by decide) d_Y_visit_155 (fun h155 => ?_) (fun h155 => ?_)
              · refine pv_iload d_Y_visit_188 rfl ?_
                refine pv_ist6 d_Y_visit_190 rfl (by decide) ?_
                refine pv_inc7 d_Y_visit_192 rfl (by decide) ?_
                refine pv_goto 125 (by decide) d_Y_visit_195 ?_
                refine pv_fg8 ?_
                have hz := ih (i + 1) (by omega)
                rw [y_ls_s] at hz
                rw [if_neg (fun z => h143 (tb_div.mpr z.1))] at hz
                exact hz
              · omega
            · refine pv_iconst d_Y_visit_146 (nI 1) (by decide) ?_
              refine pv_goto 151 (by decide) d_Y_visit_147 ?_
              refine pv_ist8 d_Y_visit_151 rfl (by decide) ?_
              refine pv_iload d_Y_visit_153 rfl ?_
              first | refine pv_ifN_eq 188 (by decide) d_Y_visit_155 (by first | assumption | omega | exact Nat.lt_of_le_of_lt Nat.and_le_right (by decide)) (fun h155 => ?_) (fun h155 => ?_) | refine pv_if_eq 188 (by decide) d_Y_visit_155 (fun h155 => ?_) (fun h155 => ?_)
              · omega
              · refine pv_aload_n d_Y_visit_158 rfl rfl ?_
                refine gY_marks d_Y_visit_159 ff_Y_65 (by first | assumption | omega) ?_
                refine pv_iconst d_Y_visit_162 (nI 5) (by decide) ?_
                refine pv_iload_n d_Y_visit_163 rfl rfl ?_
                first | refine pv_imulN d_Y_visit_164 ?_ | refine pv_imul d_Y_visit_164 ?_
                refine pv_iload d_Y_visit_165 rfl ?_
                first | refine pv_iaddN d_Y_visit_167 ?_ | refine pv_iadd d_Y_visit_167 ?_
                refine ly_marks d_Y_visit_168 (by first | assumption | omega) (by first | assumption | omega) ?_
                refine pv_iload d_Y_visit_169 rfl ?_
                first | refine pv_icmpN_ge 188 (by decide) d_Y_visit_171 (by first | assumption | omega | exact Nat.lt_of_le_of_lt Nat.and_le_right (by decide)) (by first | assumption | omega | exact Nat.lt_of_le_of_lt Nat.and_le_right (by decide)) (fun h171 => ?_) (fun h171 => ?_) | refine pv_icmp_ge 188 (by decide) d_Y_visit_171 (fun h171 => ?_) (fun h171 => ?_)
                · refine pv_iload d_Y_visit_188 rfl ?_
                  refine pv_ist6 d_Y_visit_190 rfl (by decide) ?_
                  refine pv_inc7 d_Y_visit_192 rfl (by decide) ?_
                  refine pv_goto 125 (by decide) d_Y_visit_195 ?_
                  refine pv_fg8 ?_
                  have hz := ih (i + 1) (by omega)
                  rw [y_ls_s] at hz
                  rw [if_neg (fun z => by have := z.2; omega)] at hz
                  exact hz
                · refine pv_aload_n d_Y_visit_174 rfl rfl ?_
                  refine gY_marks d_Y_visit_175 ff_Y_65 (by first | assumption | omega) ?_
                  refine pv_iconst d_Y_visit_178 (nI 5) (by decide) ?_
                  refine pv_iload_n d_Y_visit_179 rfl rfl ?_
                  first | refine pv_imulN d_Y_visit_180 ?_ | refine pv_imul d_Y_visit_180 ?_
                  refine pv_iload d_Y_visit_181 rfl ?_
                  first | refine pv_iaddN d_Y_visit_183 ?_ | refine pv_iadd d_Y_visit_183 ?_
                  refine ly_marks d_Y_visit_184 (by first | assumption | omega) (by first | assumption | omega) ?_
                  refine pv_goto 190 (by decide) d_Y_visit_185 ?_
                  refine pv_ist6 d_Y_visit_190 rfl (by decide) ?_
                  refine pv_inc7 d_Y_visit_192 rfl (by decide) ?_
                  refine pv_goto 125 (by decide) d_Y_visit_195 ?_
                  refine pv_fg8 ?_
                  have hz := ih (i + 1) (by omega)
                  rw [y_ls_s] at hz
                  rw [if_pos ⟨tb_div.mp h143, h171⟩] at hz
                  exact hz
      have loopQ : ∀ (j i : Nat), i + j = (u_s2 τ n (τ 2 n)) 18 (τ 2 n) → pv_V l D ty base b c_Y_visit 9 y_Y_visit.cls (some .int) y_Y_visit.name (pv_rm 5 0 0) (fun _ => True) (pv_Qf base 0 0 (pv_QI D ty base b post)) 0 0 65 [some (.ref (40 + 1)), some (.int (nI (n))), some (.int (nI (0))), some (.int (nI ((τ 2 n)))), some (.int (nI ((y_rq n (τ 2 n) τ 48).2))), some (.int (nI ((y_nw n (τ 2 n) (y_rq n (τ 2 n) τ 48).1 2).2))), some (.int (nI (i + 1))), none, none] [] (ξ ++ memY (y_mk n (τ 2 n) (u_s2 τ n (τ 2 n)) i)) := by
        intro j
        induction j with
        | zero =>
          intro i hi
          refine pv_iload d_Y_visit_65 rfl ?_
          refine pv_aload_n d_Y_visit_67 rfl rfl ?_
          refine gY_latest d_Y_visit_68 ff_Y_59 (by first | assumption | omega) ?_
          refine pv_iload_n d_Y_visit_71 rfl rfl ?_
          refine ly_latest d_Y_visit_72 (by first | assumption | omega) (by first | assumption | omega) ?_
          rw [y_mk_ne (show (18 : Nat) ≠ 21 by decide)]
          first | refine pv_icmpN_gt 118 (by decide) d_Y_visit_73 (by first | assumption | omega | exact Nat.lt_of_le_of_lt Nat.and_le_right (by decide)) (by first | assumption | omega | exact Nat.lt_of_le_of_lt Nat.and_le_right (by decide)) (fun h73 => ?_) (fun h73 => ?_) | refine pv_icmp_gt 118 (by decide) d_Y_visit_73 (fun h73 => ?_) (fun h73 => ?_)
          · refine pv_bipush d_Y_visit_118 (nI 48) (by decide) ?_
            refine pv_ist6 d_Y_visit_120 rfl (by decide) ?_
            refine pv_iconst d_Y_visit_122 (nI 0) (by decide) ?_
            refine pv_ist7 d_Y_visit_123 rfl (by decide) ?_
            obtain rfl : i = (u_s2 τ n (τ 2 n)) 18 (τ 2 n) := by omega
            exact loopL 5 0 rfl
          · omega
        | succ j ih =>
          intro i hi
          refine pv_iload d_Y_visit_65 rfl ?_
          refine pv_aload_n d_Y_visit_67 rfl rfl ?_
          refine gY_latest d_Y_visit_68 ff_Y_59 (by first | assumption | omega) ?_
          refine pv_iload_n d_Y_visit_71 rfl rfl ?_
          refine ly_latest d_Y_visit_72 (by first | assumption | omega) (by first | assumption | omega) ?_
          rw [y_mk_ne (show (18 : Nat) ≠ 21 by decide)]
          first | refine pv_icmpN_gt 118 (by decide) d_Y_visit_73 (by first | assumption | omega | exact Nat.lt_of_le_of_lt Nat.and_le_right (by decide)) (by first | assumption | omega | exact Nat.lt_of_le_of_lt Nat.and_le_right (by decide)) (fun h73 => ?_) (fun h73 => ?_) | refine pv_icmp_gt 118 (by decide) d_Y_visit_73 (fun h73 => ?_) (fun h73 => ?_)
          · omega
          · refine pv_aload_n d_Y_visit_76 rfl rfl ?_
            refine gY_wanted d_Y_visit_77 ff_Y_68 (by first | assumption | omega) ?_
            refine pv_iload_n d_Y_visit_80 rfl rfl ?_
            refine pv_aload_n d_Y_visit_81 rfl rfl ?_
            refine pv_iload_n d_Y_visit_82 rfl rfl ?_
            refine pv_iload d_Y_visit_83 rfl ?_
            refine pv_callV2I d_Y_visit_85 (k_Y_has hξ hn (by omega) (bY_mk (bY_u2 hb hr ok) i (by omega)) ?_) sb_Y_has wm_Y_87 (gy_Y (by first | assumption | omega)) rfl ⟨wi_Y_has, we_Y_has⟩ (by decide) (by decide) (Nat.le_of_ble_eq_true rfl) (by decide) (by decide)
            have hbb := b2_lt (y_has (y_mk n (τ 2 n) (u_s2 τ n (τ 2 n)) i) n (i + 1))
            first | refine pv_ifN_eq 100 (by decide) d_Y_visit_88 (by first | assumption | omega | exact Nat.lt_of_le_of_lt Nat.and_le_right (by decide)) (fun h88 => ?_) (fun h88 => ?_) | refine pv_if_eq 100 (by decide) d_Y_visit_88 (fun h88 => ?_) (fun h88 => ?_)
            · refine pv_aload_n d_Y_visit_100 rfl rfl ?_
              refine gY_wanted d_Y_visit_101 ff_Y_68 (by first | assumption | omega) ?_
              refine pv_iload_n d_Y_visit_104 rfl rfl ?_
              refine ly_wanted d_Y_visit_105 (by first | assumption | omega) (by first | assumption | omega) ?_
              refine pv_lconst d_Y_visit_106 (lN 1) (by decide) ?_
              refine pv_iload d_Y_visit_107 rfl ?_
              refine pv_lshl1 d_Y_visit_109 (by first | assumption | omega) ?_
              refine pv_lorN d_Y_visit_110 ?_
              refine sy_wanted d_Y_visit_111 (by first | assumption | omega) (by first | assumption | omega) ?_
              refine pv_inc6 d_Y_visit_112 rfl (by decide) ?_
              refine pv_goto 65 (by decide) d_Y_visit_115 ?_
              have hz := ih (i + 1) (by omega)
              rw [y_mk_s] at hz
              rw [if_neg (by rw [b2_0.mp h88]; decide)] at hz
              exact hz
            · refine pv_aload_n d_Y_visit_91 rfl rfl ?_
              refine gY_wanted d_Y_visit_92 ff_Y_68 (by first | assumption | omega) ?_
              refine pv_iload_n d_Y_visit_95 rfl rfl ?_
              refine ly_wanted d_Y_visit_96 (by first | assumption | omega) (by first | assumption | omega) ?_
              refine pv_goto 111 (by decide) d_Y_visit_97 ?_
              refine sy_wanted d_Y_visit_111 (by first | assumption | omega) (by first | assumption | omega) ?_
              refine pv_inc6 d_Y_visit_112 rfl (by decide) ?_
              refine pv_goto 65 (by decide) d_Y_visit_115 ?_
              have hz := ih (i + 1) (by omega)
              rw [y_mk_s] at hz
              rw [if_pos (b2_n0.mp h88)] at hz
              exact hz
      refine pv_aload_n d_Y_visit_31 rfl rfl ?_
      refine pv_iload_n d_Y_visit_32 rfl rfl ?_
      refine pv_iload_n d_Y_visit_33 rfl rfl ?_
      refine pv_callV2I d_Y_visit_34 (k_Y_sendAgain hξ hn hr hb ?_) sb_Y_sendAgain wm_Y_113 (gy_Y (by first | assumption | omega)) rfl ⟨wi_Y_sendAgain, we_Y_sendAgain⟩ (by decide) (by decide) (Nat.le_of_ble_eq_true rfl) (by decide) (by decide)
      refine pv_ist4 d_Y_visit_37 rfl (by decide) ?_
      refine pv_aload_n d_Y_visit_39 rfl rfl ?_
      refine pv_iload_n d_Y_visit_40 rfl rfl ?_
      refine pv_iload_n d_Y_visit_41 rfl rfl ?_
      refine pv_callV2I d_Y_visit_42 (k_Y_sendNew hξ hn hr (bY_rq hb 48) ok.1 ?_) sb_Y_sendNew wm_Y_116 (gy_Y (by first | assumption | omega)) rfl ⟨wi_Y_sendNew, we_Y_sendNew⟩ (by decide) (by decide) (Nat.le_of_ble_eq_true rfl) (by decide) (by decide)
      refine pv_ist5 d_Y_visit_45 rfl (by decide) ?_
      refine pv_aload_n d_Y_visit_47 rfl rfl ?_
      refine gY_marks d_Y_visit_48 ff_Y_65 (by first | assumption | omega) ?_
      refine pv_iconst d_Y_visit_51 (nI 5) (by decide) ?_
      refine pv_iload_n d_Y_visit_52 rfl rfl ?_
      first | refine pv_imulN d_Y_visit_53 ?_ | refine pv_imul d_Y_visit_53 ?_
      refine pv_iload_n d_Y_visit_54 rfl rfl ?_
      first | refine pv_iaddN d_Y_visit_55 ?_ | refine pv_iadd d_Y_visit_55 ?_
      refine pv_aload_n d_Y_visit_56 rfl rfl ?_
      refine pv_iload_n d_Y_visit_57 rfl rfl ?_
      refine pv_callV1I d_Y_visit_58 (k_Y_reachOf hξ hn (bY_u1 hb hr ok) ?_) sb_Y_reachOf wm_Y_119 (gy_Y (by first | assumption | omega)) rfl ⟨wi_Y_reachOf, we_Y_reachOf⟩ (by decide) (by decide) (Nat.le_of_ble_eq_true rfl) (by decide) (by decide)
      refine sy_marks d_Y_visit_61 (by first | assumption | omega) (by first | assumption | omega) ?_
      refine pv_iconst d_Y_visit_62 (nI 1) (by decide) ?_
      refine pv_ist6 d_Y_visit_63 rfl (by decide) ?_
      exact loopQ _ 0 (Nat.zero_add _)
    · refine pv_iconst d_Y_visit_29 (-1) (by decide) ?_
      refine pv_iret d_Y_visit_30 ?_
      rw [b_visit, if_neg hu, if_neg (mt (tk_eq (Nat.lt_of_lt_of_le (hb 17 (τ 2 n)) (by decide)) (by omega)).mpr h26)] at k
      exact k
  · refine pv_iload_n d_Y_visit_10 rfl rfl ?_
    refine pv_iret d_Y_visit_11 ?_
    exact absurd rfl h7

end REF5
