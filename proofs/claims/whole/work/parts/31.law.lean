/-! 31.law: the walk of the law, open in the relation Sim and in SimOK Sim -/
section LAW
variable {l : Launch} {D : va_G} {ty : Nat → ClassId} {base b Ln : Nat} {xs : Nat → Int32} {nm : String}
def Exl (base b Ln : Nat) (xs : Nat → Int32) (s : State) : Prop := s.heap.size = base ∧ va_X b Ln xs s s.heap ∧ b < base
def Qfl (b : Nat) (below : List Frame) (a : Array Value) (s t : State) : Prop := a = #[Value.ref b] → lw_Z below a s t
theorem pv_lret {cells slots pc : Nat} {L : List (Option Value)} {M : List va_E} (hc : cells ≤ 600000) (hs : slots ≤ 7302250) (hd : decode code pc = .ok (.ireturn, 1)) : pv_V l D ty base b code 4 R_L ret nm room_1 (Exl base b Ln xs) (Qfl b) cells slots pc L [.int (nI 1)] M := by
  intro p e s m args below meth c C H locs ls hl hP hS
  by_cases ha : args = #[Value.ref b]
  · subst ha
    have hbase : s.heap.size = base := C.2.2.2.2.2.2.1
    have hw : W p l e room_1 s m #[Value.ref b] below meth c H locs cells slots (lw_Z below #[Value.ref b] s) (F0 m pc ls [.int 1]) := by
      refine W.widen (k := 600000) (n := 7302250) hc hs ?_
      refine va_forget (fun q hq => by rw [hbase]; exact hS.2.2 q hq) ?_
      exact lw_ret C.1.1 C.1.2.1 C.2.2.1 C.2.2.2.1 hd
    intro T hT X
    obtain ⟨t, h1, h2⟩ := hw T hT X
    exact ⟨t, h1, fun _ => h2⟩
  · intro T hT X
    exact ⟨_, Steps.refl _, fun h => absurd h ha⟩
theorem neg_lt {x : Int32} (h : x < 0) : x < nI 1 := by
  rw [Int32.lt_iff_toInt_lt, nI_toInt (by decide)]
  rw [Int32.lt_iff_toInt_lt] at h
  have : (0 : Int32).toInt = 0 := by decide
  omega
variable {Sim : Nat → (Nat → Nat → Nat) → (Nat → Nat → Nat) → Prop}
set_option maxRecDepth 100000 in
set_option maxHeartbeats 2000000 in
theorem law_send (hS : SimOK Sim) (hL : Ln ≤ 1536) (c : Nat) (σ τ : Nat → Nat → Nat) (hc : c < 512) (hi : 3 * c + 3 ≤ Ln) (hs : Sim c σ τ) (step : ∀ σ1 τ1, Sim (c + 1) σ1 τ1 → pv_V l D ty base b code 4 R_L ret nm room_1 (Exl base b Ln xs) (Qfl b) 61 6344 617 [some (.ref 0), some (.ref (0 + 1)), some (.ref (40 + 1)), some (.int (nI (3 * c)))] [] (memX σ1 ++ memY τ1)) : pv_V l D ty base b code 4 R_L ret nm room_1 (Exl base b Ln xs) (Qfl b) 61 6344 124 [some (.ref 0), some (.ref (0 + 1)), some (.ref (40 + 1)), some (.int (nI (3 * c)))] [] (memX σ ++ memY τ) := by
  have hEx : ∀ s, Exl base b Ln xs s → va_X b Ln xs s s.heap ∧ b < base := fun s h => h.2
  obtain ⟨h0, hn0⟩ := hS c σ τ hc hs
  rcases ix5 (xs (3 * c + 1)) with hx | ⟨n, hn, hx⟩
  · refine pv_aload_n d_L_law_124 rfl rfl ?_
    refine pv_aload_n d_L_law_125 rfl rfl ?_
    refine pv_iload_n d_L_law_126 rfl rfl ?_
    refine pv_iconst d_L_law_127 (nI 1) (by decide) ?_
    first | refine pv_iaddN d_L_law_128 ?_ | refine pv_iadd d_L_law_128 ?_
    refine pv_sld d_L_law_129 hEx (by omega) (by omega) ?_
    refine pv_aload_n d_L_law_130 rfl rfl ?_
    refine pv_iload_n d_L_law_131 rfl rfl ?_
    refine pv_iconst d_L_law_132 (nI 2) (by decide) ?_
    first | refine pv_iaddN d_L_law_133 ?_ | refine pv_iadd d_L_law_133 ?_
    refine pv_sld d_L_law_134 hEx (by omega) (by omega) ?_
    first | refine pv_ifN_eq 142 (by decide) d_L_law_135 (by first | assumption | omega | exact Nat.lt_of_le_of_lt Nat.and_le_right (by decide)) (fun h135 => ?_) (fun h135 => ?_) | refine pv_if_eq 142 (by decide) d_L_law_135 (fun h135 => ?_) (fun h135 => ?_)
    · refine pv_iconst d_L_law_142 (nI 0) (by decide) ?_
      refine pv_callV2I d_L_law_143 (k_O_send_no hx ?_) sb_O_send wm_L_13 gx_O rfl ⟨wi_O_send, we_O_send⟩ (by decide) (by decide) (Nat.le_of_ble_eq_true rfl) (by decide) (by decide)
      refine pv_aload_n d_L_law_146 rfl rfl ?_
      refine pv_aload_n d_L_law_147 rfl rfl ?_
      refine pv_iload_n d_L_law_148 rfl rfl ?_
      refine pv_iconst d_L_law_149 (nI 1) (by decide) ?_
      first | refine pv_iaddN d_L_law_150 ?_ | refine pv_iadd d_L_law_150 ?_
      refine pv_sld d_L_law_151 hEx (by omega) (by omega) ?_
      refine pv_aload_n d_L_law_152 rfl rfl ?_
      refine pv_iload_n d_L_law_153 rfl rfl ?_
      refine pv_iconst d_L_law_154 (nI 2) (by decide) ?_
      first | refine pv_iaddN d_L_law_155 ?_ | refine pv_iadd d_L_law_155 ?_
      refine pv_sld d_L_law_156 hEx (by omega) (by omega) ?_
      first | refine pv_ifN_eq 164 (by decide) d_L_law_157 (by first | assumption | omega | exact Nat.lt_of_le_of_lt Nat.and_le_right (by decide)) (fun h157 => ?_) (fun h157 => ?_) | refine pv_if_eq 164 (by decide) d_L_law_157 (fun h157 => ?_) (fun h157 => ?_)
      · refine pv_iconst d_L_law_164 (nI 0) (by decide) ?_
        refine pv_callV2I d_L_law_165 (k_Y_send_no rfl (five_four hx) ?_) sb_Y_send wm_L_17 (gy_Y rfl) rfl ⟨wi_Y_send, we_Y_send⟩ (by decide) (by decide) (Nat.le_of_ble_eq_true rfl) (by decide) (by decide)
        first | refine pv_icmpN_eq 617 (by decide) d_L_law_168 (by first | assumption | omega | exact Nat.lt_of_le_of_lt Nat.and_le_right (by decide)) (by first | assumption | omega | exact Nat.lt_of_le_of_lt Nat.and_le_right (by decide)) (fun h168 => ?_) (fun h168 => ?_) | refine pv_icmp_eq 617 (by decide) d_L_law_168 (fun h168 => ?_) (fun h168 => ?_)
        · exact step _ _ (h0.2.2.2.2.1)
        · exact absurd (rfl) h168
      · refine pv_iconst d_L_law_160 (nI 1) (by decide) ?_
        refine pv_goto 165 (by decide) d_L_law_161 ?_
        exact absurd h135 h157
    · refine pv_iconst d_L_law_138 (nI 1) (by decide) ?_
      refine pv_goto 143 (by decide) d_L_law_139 ?_
      refine pv_callV2I d_L_law_143 (k_O_send_no hx ?_) sb_O_send wm_L_13 gx_O rfl ⟨wi_O_send, we_O_send⟩ (by decide) (by decide) (Nat.le_of_ble_eq_true rfl) (by decide) (by decide)
      refine pv_aload_n d_L_law_146 rfl rfl ?_
      refine pv_aload_n d_L_law_147 rfl rfl ?_
      refine pv_iload_n d_L_law_148 rfl rfl ?_
      refine pv_iconst d_L_law_149 (nI 1) (by decide) ?_
      first | refine pv_iaddN d_L_law_150 ?_ | refine pv_iadd d_L_law_150 ?_
      refine pv_sld d_L_law_151 hEx (by omega) (by omega) ?_
      refine pv_aload_n d_L_law_152 rfl rfl ?_
      refine pv_iload_n d_L_law_153 rfl rfl ?_
      refine pv_iconst d_L_law_154 (nI 2) (by decide) ?_
      first | refine pv_iaddN d_L_law_155 ?_ | refine pv_iadd d_L_law_155 ?_
      refine pv_sld d_L_law_156 hEx (by omega) (by omega) ?_
      first | refine pv_ifN_eq 164 (by decide) d_L_law_157 (by first | assumption | omega | exact Nat.lt_of_le_of_lt Nat.and_le_right (by decide)) (fun h157 => ?_) (fun h157 => ?_) | refine pv_if_eq 164 (by decide) d_L_law_157 (fun h157 => ?_) (fun h157 => ?_)
      · refine pv_iconst d_L_law_164 (nI 0) (by decide) ?_
        exact absurd h157 h135
      · refine pv_iconst d_L_law_160 (nI 1) (by decide) ?_
        refine pv_goto 165 (by decide) d_L_law_161 ?_
        refine pv_callV2I d_L_law_165 (k_Y_send_no rfl (five_four hx) ?_) sb_Y_send wm_L_17 (gy_Y rfl) rfl ⟨wi_Y_send, we_Y_send⟩ (by decide) (by decide) (Nat.le_of_ble_eq_true rfl) (by decide) (by decide)
        first | refine pv_icmpN_eq 617 (by decide) d_L_law_168 (by first | assumption | omega | exact Nat.lt_of_le_of_lt Nat.and_le_right (by decide)) (by first | assumption | omega | exact Nat.lt_of_le_of_lt Nat.and_le_right (by decide)) (fun h168 => ?_) (fun h168 => ?_) | refine pv_icmp_eq 617 (by decide) d_L_law_168 (fun h168 => ?_) (fun h168 => ?_)
        · exact step _ _ (h0.2.2.2.2.1)
        · exact absurd (rfl) h168
  · have hN := hn0 n hn
    refine pv_aload_n d_L_law_124 rfl rfl ?_
    refine pv_aload_n d_L_law_125 rfl rfl ?_
    refine pv_iload_n d_L_law_126 rfl rfl ?_
    refine pv_iconst d_L_law_127 (nI 1) (by decide) ?_
    first | refine pv_iaddN d_L_law_128 ?_ | refine pv_iadd d_L_law_128 ?_
    refine pv_sld d_L_law_129 hEx (by omega) (by omega) ?_
    rw [hx]
    refine pv_aload_n d_L_law_130 rfl rfl ?_
    refine pv_iload_n d_L_law_131 rfl rfl ?_
    refine pv_iconst d_L_law_132 (nI 2) (by decide) ?_
    first | refine pv_iaddN d_L_law_133 ?_ | refine pv_iadd d_L_law_133 ?_
    refine pv_sld d_L_law_134 hEx (by omega) (by omega) ?_
    first | refine pv_ifN_eq 142 (by decide) d_L_law_135 (by first | assumption | omega | exact Nat.lt_of_le_of_lt Nat.and_le_right (by decide)) (fun h135 => ?_) (fun h135 => ?_) | refine pv_if_eq 142 (by decide) d_L_law_135 (fun h135 => ?_) (fun h135 => ?_)
    · refine pv_iconst d_L_law_142 (nI 0) (by decide) ?_
      refine pv_callV2I d_L_law_143 (k_O_send hn (by decide) h0.1 ?_) sb_O_send wm_L_13 gx_O rfl ⟨wi_O_send, we_O_send⟩ (by decide) (by decide) (Nat.le_of_ble_eq_true rfl) (by decide) (by decide)
      refine pv_aload_n d_L_law_146 rfl rfl ?_
      refine pv_aload_n d_L_law_147 rfl rfl ?_
      refine pv_iload_n d_L_law_148 rfl rfl ?_
      refine pv_iconst d_L_law_149 (nI 1) (by decide) ?_
      first | refine pv_iaddN d_L_law_150 ?_ | refine pv_iadd d_L_law_150 ?_
      refine pv_sld d_L_law_151 hEx (by omega) (by omega) ?_
      rw [hx]
      refine pv_aload_n d_L_law_152 rfl rfl ?_
      refine pv_iload_n d_L_law_153 rfl rfl ?_
      refine pv_iconst d_L_law_154 (nI 2) (by decide) ?_
      first | refine pv_iaddN d_L_law_155 ?_ | refine pv_iadd d_L_law_155 ?_
      refine pv_sld d_L_law_156 hEx (by omega) (by omega) ?_
      first | refine pv_ifN_eq 164 (by decide) d_L_law_157 (by first | assumption | omega | exact Nat.lt_of_le_of_lt Nat.and_le_right (by decide)) (fun h157 => ?_) (fun h157 => ?_) | refine pv_if_eq 164 (by decide) d_L_law_157 (fun h157 => ?_) (fun h157 => ?_)
      · refine pv_iconst d_L_law_164 (nI 0) (by decide) ?_
        refine pv_callV2I d_L_law_165 (k_Y_send rfl hn h0.2.1 (by decide) ?_) sb_Y_send wm_L_17 (gy_Y rfl) rfl ⟨wi_Y_send, we_Y_send⟩ (by decide) (by decide) (Nat.le_of_ble_eq_true rfl) (by decide) (by decide)
        first | refine pv_icmpN_eq 617 (by decide) d_L_law_168 (by first | assumption | omega | exact Nat.lt_of_le_of_lt Nat.and_le_right (by decide)) (by first | assumption | omega | exact Nat.lt_of_le_of_lt Nat.and_le_right (by decide)) (fun h168 => ?_) (fun h168 => ?_) | refine pv_icmp_eq 617 (by decide) d_L_law_168 (fun h168 => ?_) (fun h168 => ?_)
        · exact step _ _ ((hN.2.1 _ (by decide)).2)
        · exact absurd ((hN.2.1 _ (by decide)).1) h168
      · refine pv_iconst d_L_law_160 (nI 1) (by decide) ?_
        refine pv_goto 165 (by decide) d_L_law_161 ?_
        exact absurd h135 h157
    · refine pv_iconst d_L_law_138 (nI 1) (by decide) ?_
      refine pv_goto 143 (by decide) d_L_law_139 ?_
      refine pv_callV2I d_L_law_143 (k_O_send hn (by decide) h0.1 ?_) sb_O_send wm_L_13 gx_O rfl ⟨wi_O_send, we_O_send⟩ (by decide) (by decide) (Nat.le_of_ble_eq_true rfl) (by decide) (by decide)
      refine pv_aload_n d_L_law_146 rfl rfl ?_
      refine pv_aload_n d_L_law_147 rfl rfl ?_
      refine pv_iload_n d_L_law_148 rfl rfl ?_
      refine pv_iconst d_L_law_149 (nI 1) (by decide) ?_
      first | refine pv_iaddN d_L_law_150 ?_ | refine pv_iadd d_L_law_150 ?_
      refine pv_sld d_L_law_151 hEx (by omega) (by omega) ?_
      rw [hx]
      refine pv_aload_n d_L_law_152 rfl rfl ?_
      refine pv_iload_n d_L_law_153 rfl rfl ?_
      refine pv_iconst d_L_law_154 (nI 2) (by decide) ?_
      first | refine pv_iaddN d_L_law_155 ?_ | refine pv_iadd d_L_law_155 ?_
      refine pv_sld d_L_law_156 hEx (by omega) (by omega) ?_
      first | refine pv_ifN_eq 164 (by decide) d_L_law_157 (by first | assumption | omega | exact Nat.lt_of_le_of_lt Nat.and_le_right (by decide)) (fun h157 => ?_) (fun h157 => ?_) | refine pv_if_eq 164 (by decide) d_L_law_157 (fun h157 => ?_) (fun h157 => ?_)
      · refine pv_iconst d_L_law_164 (nI 0) (by decide) ?_
        exact absurd h157 h135
      · refine pv_iconst d_L_law_160 (nI 1) (by decide) ?_
        refine pv_goto 165 (by decide) d_L_law_161 ?_
        refine pv_callV2I d_L_law_165 (k_Y_send rfl hn h0.2.1 (by decide) ?_) sb_Y_send wm_L_17 (gy_Y rfl) rfl ⟨wi_Y_send, we_Y_send⟩ (by decide) (by decide) (Nat.le_of_ble_eq_true rfl) (by decide) (by decide)
        first | refine pv_icmpN_eq 617 (by decide) d_L_law_168 (by first | assumption | omega | exact Nat.lt_of_le_of_lt Nat.and_le_right (by decide)) (by first | assumption | omega | exact Nat.lt_of_le_of_lt Nat.and_le_right (by decide)) (fun h168 => ?_) (fun h168 => ?_) | refine pv_icmp_eq 617 (by decide) d_L_law_168 (fun h168 => ?_) (fun h168 => ?_)
        · exact step _ _ ((hN.2.1 _ (by decide)).2)
        · exact absurd ((hN.2.1 _ (by decide)).1) h168
set_option maxRecDepth 100000 in
set_option maxHeartbeats 2000000 in
theorem law_visit (hS : SimOK Sim) (hL : Ln ≤ 1536) (c : Nat) (σ τ : Nat → Nat → Nat) (hc : c < 512) (hi : 3 * c + 3 ≤ Ln) (hs : Sim c σ τ) (step : ∀ σ1 τ1, Sim (c + 1) σ1 τ1 → pv_V l D ty base b code 4 R_L ret nm room_1 (Exl base b Ln xs) (Qfl b) 61 6344 617 [some (.ref 0), some (.ref (0 + 1)), some (.ref (40 + 1)), some (.int (nI (3 * c)))] [] (memX σ1 ++ memY τ1)) : pv_V l D ty base b code 4 R_L ret nm room_1 (Exl base b Ln xs) (Qfl b) 61 6344 173 [some (.ref 0), some (.ref (0 + 1)), some (.ref (40 + 1)), some (.int (nI (3 * c)))] [] (memX σ ++ memY τ) := by
  have hEx : ∀ s, Exl base b Ln xs s → va_X b Ln xs s s.heap ∧ b < base := fun s h => h.2
  obtain ⟨h0, hn0⟩ := hS c σ τ hc hs
  rcases ix5 (xs (3 * c + 1)) with hx | ⟨n, hn, hx⟩
  · refine pv_aload_n d_L_law_173 rfl rfl ?_
    refine pv_aload_n d_L_law_174 rfl rfl ?_
    refine pv_iload_n d_L_law_175 rfl rfl ?_
    refine pv_iconst d_L_law_176 (nI 1) (by decide) ?_
    first | refine pv_iaddN d_L_law_177 ?_ | refine pv_iadd d_L_law_177 ?_
    refine pv_sld d_L_law_178 hEx (by omega) (by omega) ?_
    refine pv_callV1I d_L_law_179 (k_O_visit_no hx ?_) sb_O_visit wm_L_18 gx_O rfl ⟨wi_O_visit, we_O_visit⟩ (by decide) (by decide) (Nat.le_of_ble_eq_true rfl) (by decide) (by decide)
    refine pv_aload_n d_L_law_182 rfl rfl ?_
    refine pv_aload_n d_L_law_183 rfl rfl ?_
    refine pv_iload_n d_L_law_184 rfl rfl ?_
    refine pv_iconst d_L_law_185 (nI 1) (by decide) ?_
    first | refine pv_iaddN d_L_law_186 ?_ | refine pv_iadd d_L_law_186 ?_
    refine pv_sld d_L_law_187 hEx (by omega) (by omega) ?_
    refine pv_callV1I d_L_law_188 (k_Y_visit_no rfl (five_four hx) ?_) sb_Y_visit wm_L_22 (gy_Y rfl) rfl ⟨wi_Y_visit, we_Y_visit⟩ (by decide) (by decide) (Nat.le_of_ble_eq_true rfl) (by decide) (by decide)
    first | refine pv_icmpN_eq 617 (by decide) d_L_law_191 (by first | assumption | omega | exact Nat.lt_of_le_of_lt Nat.and_le_right (by decide)) (by first | assumption | omega | exact Nat.lt_of_le_of_lt Nat.and_le_right (by decide)) (fun h191 => ?_) (fun h191 => ?_) | refine pv_icmp_eq 617 (by decide) d_L_law_191 (fun h191 => ?_) (fun h191 => ?_)
    · exact step _ _ (h0.2.2.2.2.1)
    · exact absurd (rfl) h191
  · have hN := hn0 n hn
    refine pv_aload_n d_L_law_173 rfl rfl ?_
    refine pv_aload_n d_L_law_174 rfl rfl ?_
    refine pv_iload_n d_L_law_175 rfl rfl ?_
    refine pv_iconst d_L_law_176 (nI 1) (by decide) ?_
    first | refine pv_iaddN d_L_law_177 ?_ | refine pv_iadd d_L_law_177 ?_
    refine pv_sld d_L_law_178 hEx (by omega) (by omega) ?_
    rw [hx]
    refine pv_callV1I d_L_law_179 (k_O_visit hn h0.1 h0.2.2.1 ?_) sb_O_visit wm_L_18 gx_O rfl ⟨wi_O_visit, we_O_visit⟩ (by decide) (by decide) (Nat.le_of_ble_eq_true rfl) (by decide) (by decide)
    refine pv_aload_n d_L_law_182 rfl rfl ?_
    refine pv_aload_n d_L_law_183 rfl rfl ?_
    refine pv_iload_n d_L_law_184 rfl rfl ?_
    refine pv_iconst d_L_law_185 (nI 1) (by decide) ?_
    first | refine pv_iaddN d_L_law_186 ?_ | refine pv_iadd d_L_law_186 ?_
    refine pv_sld d_L_law_187 hEx (by omega) (by omega) ?_
    rw [hx]
    refine pv_callV1I d_L_law_188 (k_Y_visit rfl hn h0.2.1 hN.2.2.1.1 ?_) sb_Y_visit wm_L_22 (gy_Y rfl) rfl ⟨wi_Y_visit, we_Y_visit⟩ (by decide) (by decide) (Nat.le_of_ble_eq_true rfl) (by decide) (by decide)
    first | refine pv_icmpN_eq 617 (by decide) d_L_law_191 (by first | assumption | omega | exact Nat.lt_of_le_of_lt Nat.and_le_right (by decide)) (by first | assumption | omega | exact Nat.lt_of_le_of_lt Nat.and_le_right (by decide)) (fun h191 => ?_) (fun h191 => ?_) | refine pv_icmp_eq 617 (by decide) d_L_law_191 (fun h191 => ?_) (fun h191 => ?_)
    · exact step _ _ (hN.2.2.1.2.2)
    · exact absurd (hN.2.2.1.2.1) h191
set_option maxRecDepth 100000 in
set_option maxHeartbeats 2000000 in
theorem law_tick (hS : SimOK Sim) (hL : Ln ≤ 1536) (c : Nat) (σ τ : Nat → Nat → Nat) (hc : c < 512) (hi : 3 * c + 3 ≤ Ln) (hs : Sim c σ τ) (step : ∀ σ1 τ1, Sim (c + 1) σ1 τ1 → pv_V l D ty base b code 4 R_L ret nm room_1 (Exl base b Ln xs) (Qfl b) 61 6344 617 [some (.ref 0), some (.ref (0 + 1)), some (.ref (40 + 1)), some (.int (nI (3 * c)))] [] (memX σ1 ++ memY τ1)) : pv_V l D ty base b code 4 R_L ret nm room_1 (Exl base b Ln xs) (Qfl b) 61 6344 196 [some (.ref 0), some (.ref (0 + 1)), some (.ref (40 + 1)), some (.int (nI (3 * c)))] [] (memX σ ++ memY τ) := by
  have hEx : ∀ s, Exl base b Ln xs s → va_X b Ln xs s s.heap ∧ b < base := fun s h => h.2
  obtain ⟨h0, hn0⟩ := hS c σ τ hc hs
  rcases ix5 (xs (3 * c + 1)) with hx | ⟨n, hn, hx⟩
  · refine pv_aload_n d_L_law_196 rfl rfl ?_
    refine pv_aload_n d_L_law_197 rfl rfl ?_
    refine pv_iload_n d_L_law_198 rfl rfl ?_
    refine pv_iconst d_L_law_199 (nI 1) (by decide) ?_
    first | refine pv_iaddN d_L_law_200 ?_ | refine pv_iadd d_L_law_200 ?_
    refine pv_sld d_L_law_201 hEx (by omega) (by omega) ?_
    refine pv_callV1I d_L_law_202 (k_O_tick_no hx ?_) sb_O_tick wm_L_23 gx_O rfl ⟨wi_O_tick, we_O_tick⟩ (by decide) (by decide) (Nat.le_of_ble_eq_true rfl) (by decide) (by decide)
    refine pv_aload_n d_L_law_205 rfl rfl ?_
    refine pv_aload_n d_L_law_206 rfl rfl ?_
    refine pv_iload_n d_L_law_207 rfl rfl ?_
    refine pv_iconst d_L_law_208 (nI 1) (by decide) ?_
    first | refine pv_iaddN d_L_law_209 ?_ | refine pv_iadd d_L_law_209 ?_
    refine pv_sld d_L_law_210 hEx (by omega) (by omega) ?_
    refine pv_callV1I d_L_law_211 (k_Y_tick_no rfl (five_four hx) ?_) sb_Y_tick wm_L_26 (gy_Y rfl) rfl ⟨wi_Y_tick, we_Y_tick⟩ (by decide) (by decide) (Nat.le_of_ble_eq_true rfl) (by decide) (by decide)
    first | refine pv_icmpN_eq 617 (by decide) d_L_law_214 (by first | assumption | omega | exact Nat.lt_of_le_of_lt Nat.and_le_right (by decide)) (by first | assumption | omega | exact Nat.lt_of_le_of_lt Nat.and_le_right (by decide)) (fun h214 => ?_) (fun h214 => ?_) | refine pv_icmp_eq 617 (by decide) d_L_law_214 (fun h214 => ?_) (fun h214 => ?_)
    · exact step _ _ (h0.2.2.2.2.1)
    · exact absurd (rfl) h214
  · have hN := hn0 n hn
    refine pv_aload_n d_L_law_196 rfl rfl ?_
    refine pv_aload_n d_L_law_197 rfl rfl ?_
    refine pv_iload_n d_L_law_198 rfl rfl ?_
    refine pv_iconst d_L_law_199 (nI 1) (by decide) ?_
    first | refine pv_iaddN d_L_law_200 ?_ | refine pv_iadd d_L_law_200 ?_
    refine pv_sld d_L_law_201 hEx (by omega) (by omega) ?_
    rw [hx]
    refine pv_callV1I d_L_law_202 (k_O_tick hn h0.1 hN.1.1 h0.2.2.1 ?_) sb_O_tick wm_L_23 gx_O rfl ⟨wi_O_tick, we_O_tick⟩ (by decide) (by decide) (Nat.le_of_ble_eq_true rfl) (by decide) (by decide)
    refine pv_aload_n d_L_law_205 rfl rfl ?_
    refine pv_aload_n d_L_law_206 rfl rfl ?_
    refine pv_iload_n d_L_law_207 rfl rfl ?_
    refine pv_iconst d_L_law_208 (nI 1) (by decide) ?_
    first | refine pv_iaddN d_L_law_209 ?_ | refine pv_iadd d_L_law_209 ?_
    refine pv_sld d_L_law_210 hEx (by omega) (by omega) ?_
    rw [hx]
    refine pv_callV1I d_L_law_211 (k_Y_tick rfl hn h0.2.1 hN.1.2.1 hN.2.2.2.1.1 ?_) sb_Y_tick wm_L_26 (gy_Y rfl) rfl ⟨wi_Y_tick, we_Y_tick⟩ (by decide) (by decide) (Nat.le_of_ble_eq_true rfl) (by decide) (by decide)
    first | refine pv_icmpN_eq 617 (by decide) d_L_law_214 (by first | assumption | omega | exact Nat.lt_of_le_of_lt Nat.and_le_right (by decide)) (by first | assumption | omega | exact Nat.lt_of_le_of_lt Nat.and_le_right (by decide)) (fun h214 => ?_) (fun h214 => ?_) | refine pv_icmp_eq 617 (by decide) d_L_law_214 (fun h214 => ?_) (fun h214 => ?_)
    · exact step _ _ (hN.2.2.2.1.2.2)
    · exact absurd (hN.2.2.2.1.2.1) h214
set_option maxRecDepth 100000 in
set_option maxHeartbeats 2000000 in
theorem law_crash (hS : SimOK Sim) (hL : Ln ≤ 1536) (c : Nat) (σ τ : Nat → Nat → Nat) (hc : c < 512) (hi : 3 * c + 3 ≤ Ln) (hs : Sim c σ τ) (step : ∀ σ1 τ1, Sim (c + 1) σ1 τ1 → pv_V l D ty base b code 4 R_L ret nm room_1 (Exl base b Ln xs) (Qfl b) 61 6344 617 [some (.ref 0), some (.ref (0 + 1)), some (.ref (40 + 1)), some (.int (nI (3 * c)))] [] (memX σ1 ++ memY τ1)) : pv_V l D ty base b code 4 R_L ret nm room_1 (Exl base b Ln xs) (Qfl b) 61 6344 219 [some (.ref 0), some (.ref (0 + 1)), some (.ref (40 + 1)), some (.int (nI (3 * c)))] [] (memX σ ++ memY τ) := by
  have hEx : ∀ s, Exl base b Ln xs s → va_X b Ln xs s s.heap ∧ b < base := fun s h => h.2
  obtain ⟨h0, hn0⟩ := hS c σ τ hc hs
  rcases ix5 (xs (3 * c + 1)) with hx | ⟨n, hn, hx⟩
  · refine pv_aload_n d_L_law_219 rfl rfl ?_
    refine pv_aload_n d_L_law_220 rfl rfl ?_
    refine pv_iload_n d_L_law_221 rfl rfl ?_
    refine pv_iconst d_L_law_222 (nI 1) (by decide) ?_
    first | refine pv_iaddN d_L_law_223 ?_ | refine pv_iadd d_L_law_223 ?_
    refine pv_sld d_L_law_224 hEx (by omega) (by omega) ?_
    refine pv_callV1I d_L_law_225 (k_O_crash_no hx ?_) sb_O_crash wm_L_27 gx_O rfl ⟨wi_O_crash, we_O_crash⟩ (by decide) (by decide) (Nat.le_of_ble_eq_true rfl) (by decide) (by decide)
    refine pv_aload_n d_L_law_228 rfl rfl ?_
    refine pv_aload_n d_L_law_229 rfl rfl ?_
    refine pv_iload_n d_L_law_230 rfl rfl ?_
    refine pv_iconst d_L_law_231 (nI 1) (by decide) ?_
    first | refine pv_iaddN d_L_law_232 ?_ | refine pv_iadd d_L_law_232 ?_
    refine pv_sld d_L_law_233 hEx (by omega) (by omega) ?_
    refine pv_callV1I d_L_law_234 (k_Y_crash_no rfl (five_four hx) ?_) sb_Y_crash wm_L_31 (gy_Y rfl) rfl ⟨wi_Y_crash, we_Y_crash⟩ (by decide) (by decide) (Nat.le_of_ble_eq_true rfl) (by decide) (by decide)
    first | refine pv_icmpN_eq 617 (by decide) d_L_law_237 (by first | assumption | omega | exact Nat.lt_of_le_of_lt Nat.and_le_right (by decide)) (by first | assumption | omega | exact Nat.lt_of_le_of_lt Nat.and_le_right (by decide)) (fun h237 => ?_) (fun h237 => ?_) | refine pv_icmp_eq 617 (by decide) d_L_law_237 (fun h237 => ?_) (fun h237 => ?_)
    · exact step _ _ (h0.2.2.2.2.1)
    · exact absurd (rfl) h237
  · have hN := hn0 n hn
    refine pv_aload_n d_L_law_219 rfl rfl ?_
    refine pv_aload_n d_L_law_220 rfl rfl ?_
    refine pv_iload_n d_L_law_221 rfl rfl ?_
    refine pv_iconst d_L_law_222 (nI 1) (by decide) ?_
    first | refine pv_iaddN d_L_law_223 ?_ | refine pv_iadd d_L_law_223 ?_
    refine pv_sld d_L_law_224 hEx (by omega) (by omega) ?_
    rw [hx]
    refine pv_callV1I d_L_law_225 (k_O_crash hn h0.1 ?_) sb_O_crash wm_L_27 gx_O rfl ⟨wi_O_crash, we_O_crash⟩ (by decide) (by decide) (Nat.le_of_ble_eq_true rfl) (by decide) (by decide)
    refine pv_aload_n d_L_law_228 rfl rfl ?_
    refine pv_aload_n d_L_law_229 rfl rfl ?_
    refine pv_iload_n d_L_law_230 rfl rfl ?_
    refine pv_iconst d_L_law_231 (nI 1) (by decide) ?_
    first | refine pv_iaddN d_L_law_232 ?_ | refine pv_iadd d_L_law_232 ?_
    refine pv_sld d_L_law_233 hEx (by omega) (by omega) ?_
    rw [hx]
    refine pv_callV1I d_L_law_234 (k_Y_crash rfl hn h0.2.1 ?_) sb_Y_crash wm_L_31 (gy_Y rfl) rfl ⟨wi_Y_crash, we_Y_crash⟩ (by decide) (by decide) (Nat.le_of_ble_eq_true rfl) (by decide) (by decide)
    first | refine pv_icmpN_eq 617 (by decide) d_L_law_237 (by first | assumption | omega | exact Nat.lt_of_le_of_lt Nat.and_le_right (by decide)) (by first | assumption | omega | exact Nat.lt_of_le_of_lt Nat.and_le_right (by decide)) (fun h237 => ?_) (fun h237 => ?_) | refine pv_icmp_eq 617 (by decide) d_L_law_237 (fun h237 => ?_) (fun h237 => ?_)
    · exact step _ _ (hN.2.2.2.2.1.2)
    · exact absurd (hN.2.2.2.2.1.1) h237
set_option maxRecDepth 100000 in
set_option maxHeartbeats 2000000 in
theorem law_restart (hS : SimOK Sim) (hL : Ln ≤ 1536) (c : Nat) (σ τ : Nat → Nat → Nat) (hc : c < 512) (hi : 3 * c + 3 ≤ Ln) (hs : Sim c σ τ) (step : ∀ σ1 τ1, Sim (c + 1) σ1 τ1 → pv_V l D ty base b code 4 R_L ret nm room_1 (Exl base b Ln xs) (Qfl b) 61 6344 617 [some (.ref 0), some (.ref (0 + 1)), some (.ref (40 + 1)), some (.int (nI (3 * c)))] [] (memX σ1 ++ memY τ1)) : pv_V l D ty base b code 4 R_L ret nm room_1 (Exl base b Ln xs) (Qfl b) 61 6344 242 [some (.ref 0), some (.ref (0 + 1)), some (.ref (40 + 1)), some (.int (nI (3 * c)))] [] (memX σ ++ memY τ) := by
  have hEx : ∀ s, Exl base b Ln xs s → va_X b Ln xs s s.heap ∧ b < base := fun s h => h.2
  obtain ⟨h0, hn0⟩ := hS c σ τ hc hs
  rcases ix5 (xs (3 * c + 1)) with hx | ⟨n, hn, hx⟩
  · refine pv_aload_n d_L_law_242 rfl rfl ?_
    refine pv_aload_n d_L_law_243 rfl rfl ?_
    refine pv_iload_n d_L_law_244 rfl rfl ?_
    refine pv_iconst d_L_law_245 (nI 1) (by decide) ?_
    first | refine pv_iaddN d_L_law_246 ?_ | refine pv_iadd d_L_law_246 ?_
    refine pv_sld d_L_law_247 hEx (by omega) (by omega) ?_
    refine pv_callV1I d_L_law_248 (k_O_restart_no hx ?_) sb_O_restart wm_L_32 gx_O rfl ⟨wi_O_restart, we_O_restart⟩ (by decide) (by decide) (Nat.le_of_ble_eq_true rfl) (by decide) (by decide)
    refine pv_aload_n d_L_law_251 rfl rfl ?_
    refine pv_aload_n d_L_law_252 rfl rfl ?_
    refine pv_iload_n d_L_law_253 rfl rfl ?_
    refine pv_iconst d_L_law_254 (nI 1) (by decide) ?_
    first | refine pv_iaddN d_L_law_255 ?_ | refine pv_iadd d_L_law_255 ?_
    refine pv_sld d_L_law_256 hEx (by omega) (by omega) ?_
    refine pv_callV1I d_L_law_257 (k_Y_restart_no rfl (five_four hx) ?_) sb_Y_restart wm_L_35 (gy_Y rfl) rfl ⟨wi_Y_restart, we_Y_restart⟩ (by decide) (by decide) (Nat.le_of_ble_eq_true rfl) (by decide) (by decide)
    first | refine pv_icmpN_eq 617 (by decide) d_L_law_260 (by first | assumption | omega | exact Nat.lt_of_le_of_lt Nat.and_le_right (by decide)) (by first | assumption | omega | exact Nat.lt_of_le_of_lt Nat.and_le_right (by decide)) (fun h260 => ?_) (fun h260 => ?_) | refine pv_icmp_eq 617 (by decide) d_L_law_260 (fun h260 => ?_) (fun h260 => ?_)
    · exact step _ _ (h0.2.2.2.2.1)
    · exact absurd (rfl) h260
  · have hN := hn0 n hn
    refine pv_aload_n d_L_law_242 rfl rfl ?_
    refine pv_aload_n d_L_law_243 rfl rfl ?_
    refine pv_iload_n d_L_law_244 rfl rfl ?_
    refine pv_iconst d_L_law_245 (nI 1) (by decide) ?_
    first | refine pv_iaddN d_L_law_246 ?_ | refine pv_iadd d_L_law_246 ?_
    refine pv_sld d_L_law_247 hEx (by omega) (by omega) ?_
    rw [hx]
    refine pv_callV1I d_L_law_248 (k_O_restart hn h0.1 h0.2.2.1 ?_) sb_O_restart wm_L_32 gx_O rfl ⟨wi_O_restart, we_O_restart⟩ (by decide) (by decide) (Nat.le_of_ble_eq_true rfl) (by decide) (by decide)
    refine pv_aload_n d_L_law_251 rfl rfl ?_
    refine pv_aload_n d_L_law_252 rfl rfl ?_
    refine pv_iload_n d_L_law_253 rfl rfl ?_
    refine pv_iconst d_L_law_254 (nI 1) (by decide) ?_
    first | refine pv_iaddN d_L_law_255 ?_ | refine pv_iadd d_L_law_255 ?_
    refine pv_sld d_L_law_256 hEx (by omega) (by omega) ?_
    rw [hx]
    refine pv_callV1I d_L_law_257 (k_Y_restart rfl hn h0.2.1 h0.2.2.2.1 ?_) sb_Y_restart wm_L_35 (gy_Y rfl) rfl ⟨wi_Y_restart, we_Y_restart⟩ (by decide) (by decide) (Nat.le_of_ble_eq_true rfl) (by decide) (by decide)
    first | refine pv_icmpN_eq 617 (by decide) d_L_law_260 (by first | assumption | omega | exact Nat.lt_of_le_of_lt Nat.and_le_right (by decide)) (by first | assumption | omega | exact Nat.lt_of_le_of_lt Nat.and_le_right (by decide)) (fun h260 => ?_) (fun h260 => ?_) | refine pv_icmp_eq 617 (by decide) d_L_law_260 (fun h260 => ?_) (fun h260 => ?_)
    · exact step _ _ (hN.2.2.2.2.2.1.2)
    · exact absurd (hN.2.2.2.2.2.1.1) h260
set_option maxRecDepth 100000 in
set_option maxHeartbeats 2000000 in
theorem law_place (hS : SimOK Sim) (hL : Ln ≤ 1536) (c : Nat) (σ τ : Nat → Nat → Nat) (hc : c < 512) (hi : 3 * c + 3 ≤ Ln) (hs : Sim c σ τ) (step : ∀ σ1 τ1, Sim (c + 1) σ1 τ1 → pv_V l D ty base b code 4 R_L ret nm room_1 (Exl base b Ln xs) (Qfl b) 61 6344 617 [some (.ref 0), some (.ref (0 + 1)), some (.ref (40 + 1)), some (.int (nI (3 * c)))] [] (memX σ1 ++ memY τ1)) : pv_V l D ty base b code 4 R_L ret nm room_1 (Exl base b Ln xs) (Qfl b) 61 6344 265 [some (.ref 0), some (.ref (0 + 1)), some (.ref (40 + 1)), some (.int (nI (3 * c)))] [] (memX σ ++ memY τ) := by
  have hEx : ∀ s, Exl base b Ln xs s → va_X b Ln xs s s.heap ∧ b < base := fun s h => h.2
  obtain ⟨h0, hn0⟩ := hS c σ τ hc hs
  rcases ix5 (xs (3 * c + 1)) with hx | ⟨n, hn, hx⟩
  · refine pv_aload_n d_L_law_265 rfl rfl ?_
    refine pv_aload_n d_L_law_266 rfl rfl ?_
    refine pv_iload_n d_L_law_267 rfl rfl ?_
    refine pv_iconst d_L_law_268 (nI 1) (by decide) ?_
    first | refine pv_iaddN d_L_law_269 ?_ | refine pv_iadd d_L_law_269 ?_
    refine pv_sld d_L_law_270 hEx (by omega) (by omega) ?_
    refine pv_aload_n d_L_law_271 rfl rfl ?_
    refine pv_iload_n d_L_law_272 rfl rfl ?_
    refine pv_iconst d_L_law_273 (nI 2) (by decide) ?_
    first | refine pv_iaddN d_L_law_274 ?_ | refine pv_iadd d_L_law_274 ?_
    refine pv_sld d_L_law_275 hEx (by omega) (by omega) ?_
    refine pv_callV2I d_L_law_276 (k_O_place_no hx ?_) sb_O_place wm_L_36 gx_O rfl ⟨wi_O_place, we_O_place⟩ (by decide) (by decide) (Nat.le_of_ble_eq_true rfl) (by decide) (by decide)
    refine pv_aload_n d_L_law_279 rfl rfl ?_
    refine pv_aload_n d_L_law_280 rfl rfl ?_
    refine pv_iload_n d_L_law_281 rfl rfl ?_
    refine pv_iconst d_L_law_282 (nI 1) (by decide) ?_
    first | refine pv_iaddN d_L_law_283 ?_ | refine pv_iadd d_L_law_283 ?_
    refine pv_sld d_L_law_284 hEx (by omega) (by omega) ?_
    refine pv_aload_n d_L_law_285 rfl rfl ?_
    refine pv_iload_n d_L_law_286 rfl rfl ?_
    refine pv_iconst d_L_law_287 (nI 2) (by decide) ?_
    first | refine pv_iaddN d_L_law_288 ?_ | refine pv_iadd d_L_law_288 ?_
    refine pv_sld d_L_law_289 hEx (by omega) (by omega) ?_
    refine pv_callV2I d_L_law_290 (k_Y_place_no rfl (five_four hx) ?_) sb_Y_place wm_L_40 (gy_Y rfl) rfl ⟨wi_Y_place, we_Y_place⟩ (by decide) (by decide) (Nat.le_of_ble_eq_true rfl) (by decide) (by decide)
    first | refine pv_icmpN_eq 617 (by decide) d_L_law_293 (by first | assumption | omega | exact Nat.lt_of_le_of_lt Nat.and_le_right (by decide)) (by first | assumption | omega | exact Nat.lt_of_le_of_lt Nat.and_le_right (by decide)) (fun h293 => ?_) (fun h293 => ?_) | refine pv_icmp_eq 617 (by decide) d_L_law_293 (fun h293 => ?_) (fun h293 => ?_)
    · exact step _ _ (h0.2.2.2.2.1)
    · exact absurd (rfl) h293
  · have hN := hn0 n hn
    rcases pk_ix (xs (3 * c + 2)) (n := 3) (by decide) with hy | hy | ⟨j, hj, hy⟩
    · refine pv_aload_n d_L_law_265 rfl rfl ?_
      refine pv_aload_n d_L_law_266 rfl rfl ?_
      refine pv_iload_n d_L_law_267 rfl rfl ?_
      refine pv_iconst d_L_law_268 (nI 1) (by decide) ?_
      first | refine pv_iaddN d_L_law_269 ?_ | refine pv_iadd d_L_law_269 ?_
      refine pv_sld d_L_law_270 hEx (by omega) (by omega) ?_
      rw [hx]
      refine pv_aload_n d_L_law_271 rfl rfl ?_
      refine pv_iload_n d_L_law_272 rfl rfl ?_
      refine pv_iconst d_L_law_273 (nI 2) (by decide) ?_
      first | refine pv_iaddN d_L_law_274 ?_ | refine pv_iadd d_L_law_274 ?_
      refine pv_sld d_L_law_275 hEx (by omega) (by omega) ?_
      refine pv_callV2I d_L_law_276 (k_O_place_out hn (Or.inl hy) ?_) sb_O_place wm_L_36 gx_O rfl ⟨wi_O_place, we_O_place⟩ (by decide) (by decide) (Nat.le_of_ble_eq_true rfl) (by decide) (by decide)
      refine pv_aload_n d_L_law_279 rfl rfl ?_
      refine pv_aload_n d_L_law_280 rfl rfl ?_
      refine pv_iload_n d_L_law_281 rfl rfl ?_
      refine pv_iconst d_L_law_282 (nI 1) (by decide) ?_
      first | refine pv_iaddN d_L_law_283 ?_ | refine pv_iadd d_L_law_283 ?_
      refine pv_sld d_L_law_284 hEx (by omega) (by omega) ?_
      rw [hx]
      refine pv_aload_n d_L_law_285 rfl rfl ?_
      refine pv_iload_n d_L_law_286 rfl rfl ?_
      refine pv_iconst d_L_law_287 (nI 2) (by decide) ?_
      first | refine pv_iaddN d_L_law_288 ?_ | refine pv_iadd d_L_law_288 ?_
      refine pv_sld d_L_law_289 hEx (by omega) (by omega) ?_
      refine pv_callV2I d_L_law_290 (k_Y_place_out rfl hn (Or.inl hy) ?_) sb_Y_place wm_L_40 (gy_Y rfl) rfl ⟨wi_Y_place, we_Y_place⟩ (by decide) (by decide) (Nat.le_of_ble_eq_true rfl) (by decide) (by decide)
      first | refine pv_icmpN_eq 617 (by decide) d_L_law_293 (by first | assumption | omega | exact Nat.lt_of_le_of_lt Nat.and_le_right (by decide)) (by first | assumption | omega | exact Nat.lt_of_le_of_lt Nat.and_le_right (by decide)) (fun h293 => ?_) (fun h293 => ?_) | refine pv_icmp_eq 617 (by decide) d_L_law_293 (fun h293 => ?_) (fun h293 => ?_)
      · exact step _ _ (h0.2.2.2.2.1)
      · exact absurd (rfl) h293
    · refine pv_aload_n d_L_law_265 rfl rfl ?_
      refine pv_aload_n d_L_law_266 rfl rfl ?_
      refine pv_iload_n d_L_law_267 rfl rfl ?_
      refine pv_iconst d_L_law_268 (nI 1) (by decide) ?_
      first | refine pv_iaddN d_L_law_269 ?_ | refine pv_iadd d_L_law_269 ?_
      refine pv_sld d_L_law_270 hEx (by omega) (by omega) ?_
      rw [hx]
      refine pv_aload_n d_L_law_271 rfl rfl ?_
      refine pv_iload_n d_L_law_272 rfl rfl ?_
      refine pv_iconst d_L_law_273 (nI 2) (by decide) ?_
      first | refine pv_iaddN d_L_law_274 ?_ | refine pv_iadd d_L_law_274 ?_
      refine pv_sld d_L_law_275 hEx (by omega) (by omega) ?_
      refine pv_callV2I d_L_law_276 (k_O_place_out hn (Or.inr hy) ?_) sb_O_place wm_L_36 gx_O rfl ⟨wi_O_place, we_O_place⟩ (by decide) (by decide) (Nat.le_of_ble_eq_true rfl) (by decide) (by decide)
      refine pv_aload_n d_L_law_279 rfl rfl ?_
      refine pv_aload_n d_L_law_280 rfl rfl ?_
      refine pv_iload_n d_L_law_281 rfl rfl ?_
      refine pv_iconst d_L_law_282 (nI 1) (by decide) ?_
      first | refine pv_iaddN d_L_law_283 ?_ | refine pv_iadd d_L_law_283 ?_
      refine pv_sld d_L_law_284 hEx (by omega) (by omega) ?_
      rw [hx]
      refine pv_aload_n d_L_law_285 rfl rfl ?_
      refine pv_iload_n d_L_law_286 rfl rfl ?_
      refine pv_iconst d_L_law_287 (nI 2) (by decide) ?_
      first | refine pv_iaddN d_L_law_288 ?_ | refine pv_iadd d_L_law_288 ?_
      refine pv_sld d_L_law_289 hEx (by omega) (by omega) ?_
      refine pv_callV2I d_L_law_290 (k_Y_place_out rfl hn (Or.inr (le_lt (by decide) hy)) ?_) sb_Y_place wm_L_40 (gy_Y rfl) rfl ⟨wi_Y_place, we_Y_place⟩ (by decide) (by decide) (Nat.le_of_ble_eq_true rfl) (by decide) (by decide)
      first | refine pv_icmpN_eq 617 (by decide) d_L_law_293 (by first | assumption | omega | exact Nat.lt_of_le_of_lt Nat.and_le_right (by decide)) (by first | assumption | omega | exact Nat.lt_of_le_of_lt Nat.and_le_right (by decide)) (fun h293 => ?_) (fun h293 => ?_) | refine pv_icmp_eq 617 (by decide) d_L_law_293 (fun h293 => ?_) (fun h293 => ?_)
      · exact step _ _ (h0.2.2.2.2.1)
      · exact absurd (rfl) h293
    · refine pv_aload_n d_L_law_265 rfl rfl ?_
      refine pv_aload_n d_L_law_266 rfl rfl ?_
      refine pv_iload_n d_L_law_267 rfl rfl ?_
      refine pv_iconst d_L_law_268 (nI 1) (by decide) ?_
      first | refine pv_iaddN d_L_law_269 ?_ | refine pv_iadd d_L_law_269 ?_
      refine pv_sld d_L_law_270 hEx (by omega) (by omega) ?_
      rw [hx]
      refine pv_aload_n d_L_law_271 rfl rfl ?_
      refine pv_iload_n d_L_law_272 rfl rfl ?_
      refine pv_iconst d_L_law_273 (nI 2) (by decide) ?_
      first | refine pv_iaddN d_L_law_274 ?_ | refine pv_iadd d_L_law_274 ?_
      refine pv_sld d_L_law_275 hEx (by omega) (by omega) ?_
      rw [hy]
      refine pv_callV2I d_L_law_276 (k_O_place hn hj ?_) sb_O_place wm_L_36 gx_O rfl ⟨wi_O_place, we_O_place⟩ (by decide) (by decide) (Nat.le_of_ble_eq_true rfl) (by decide) (by decide)
      refine pv_aload_n d_L_law_279 rfl rfl ?_
      refine pv_aload_n d_L_law_280 rfl rfl ?_
      refine pv_iload_n d_L_law_281 rfl rfl ?_
      refine pv_iconst d_L_law_282 (nI 1) (by decide) ?_
      first | refine pv_iaddN d_L_law_283 ?_ | refine pv_iadd d_L_law_283 ?_
      refine pv_sld d_L_law_284 hEx (by omega) (by omega) ?_
      rw [hx]
      refine pv_aload_n d_L_law_285 rfl rfl ?_
      refine pv_iload_n d_L_law_286 rfl rfl ?_
      refine pv_iconst d_L_law_287 (nI 2) (by decide) ?_
      first | refine pv_iaddN d_L_law_288 ?_ | refine pv_iadd d_L_law_288 ?_
      refine pv_sld d_L_law_289 hEx (by omega) (by omega) ?_
      rw [hy]
      refine pv_callV2I d_L_law_290 (k_Y_place rfl hn hj ?_) sb_Y_place wm_L_40 (gy_Y rfl) rfl ⟨wi_Y_place, we_Y_place⟩ (by decide) (by decide) (Nat.le_of_ble_eq_true rfl) (by decide) (by decide)
      first | refine pv_icmpN_eq 617 (by decide) d_L_law_293 (by first | assumption | omega | exact Nat.lt_of_le_of_lt Nat.and_le_right (by decide)) (by first | assumption | omega | exact Nat.lt_of_le_of_lt Nat.and_le_right (by decide)) (fun h293 => ?_) (fun h293 => ?_) | refine pv_icmp_eq 617 (by decide) d_L_law_293 (fun h293 => ?_) (fun h293 => ?_)
      · exact step _ _ (hN.2.2.2.2.2.2.1 j hj)
      · exact absurd (rfl) h293
set_option maxRecDepth 100000 in
set_option maxHeartbeats 2000000 in
theorem law_deafen (hS : SimOK Sim) (hL : Ln ≤ 1536) (c : Nat) (σ τ : Nat → Nat → Nat) (hc : c < 512) (hi : 3 * c + 3 ≤ Ln) (hs : Sim c σ τ) (step : ∀ σ1 τ1, Sim (c + 1) σ1 τ1 → pv_V l D ty base b code 4 R_L ret nm room_1 (Exl base b Ln xs) (Qfl b) 61 6344 617 [some (.ref 0), some (.ref (0 + 1)), some (.ref (40 + 1)), some (.int (nI (3 * c)))] [] (memX σ1 ++ memY τ1)) : pv_V l D ty base b code 4 R_L ret nm room_1 (Exl base b Ln xs) (Qfl b) 61 6344 298 [some (.ref 0), some (.ref (0 + 1)), some (.ref (40 + 1)), some (.int (nI (3 * c)))] [] (memX σ ++ memY τ) := by
  have hEx : ∀ s, Exl base b Ln xs s → va_X b Ln xs s s.heap ∧ b < base := fun s h => h.2
  obtain ⟨h0, hn0⟩ := hS c σ τ hc hs
  rcases ix5 (xs (3 * c + 1)) with hx | ⟨n, hn, hx⟩
  · refine pv_aload_n d_L_law_298 rfl rfl ?_
    refine pv_aload_n d_L_law_299 rfl rfl ?_
    refine pv_iload_n d_L_law_300 rfl rfl ?_
    refine pv_iconst d_L_law_301 (nI 1) (by decide) ?_
    first | refine pv_iaddN d_L_law_302 ?_ | refine pv_iadd d_L_law_302 ?_
    refine pv_sld d_L_law_303 hEx (by omega) (by omega) ?_
    refine pv_aload_n d_L_law_304 rfl rfl ?_
    refine pv_iload_n d_L_law_305 rfl rfl ?_
    refine pv_iconst d_L_law_306 (nI 2) (by decide) ?_
    first | refine pv_iaddN d_L_law_307 ?_ | refine pv_iadd d_L_law_307 ?_
    refine pv_sld d_L_law_308 hEx (by omega) (by omega) ?_
    refine pv_callV2I d_L_law_309 (k_O_deafen_no hx ?_) sb_O_deafen wm_L_41 gx_O rfl ⟨wi_O_deafen, we_O_deafen⟩ (by decide) (by decide) (Nat.le_of_ble_eq_true rfl) (by decide) (by decide)
    refine pv_aload_n d_L_law_312 rfl rfl ?_
    refine pv_aload_n d_L_law_313 rfl rfl ?_
    refine pv_iload_n d_L_law_314 rfl rfl ?_
    refine pv_iconst d_L_law_315 (nI 1) (by decide) ?_
    first | refine pv_iaddN d_L_law_316 ?_ | refine pv_iadd d_L_law_316 ?_
    refine pv_sld d_L_law_317 hEx (by omega) (by omega) ?_
    refine pv_aload_n d_L_law_318 rfl rfl ?_
    refine pv_iload_n d_L_law_319 rfl rfl ?_
    refine pv_iconst d_L_law_320 (nI 2) (by decide) ?_
    first | refine pv_iaddN d_L_law_321 ?_ | refine pv_iadd d_L_law_321 ?_
    refine pv_sld d_L_law_322 hEx (by omega) (by omega) ?_
    refine pv_callV2I d_L_law_323 (k_Y_deafen_no rfl (five_four hx) ?_) sb_Y_deafen wm_L_44 (gy_Y rfl) rfl ⟨wi_Y_deafen, we_Y_deafen⟩ (by decide) (by decide) (Nat.le_of_ble_eq_true rfl) (by decide) (by decide)
    first | refine pv_icmpN_eq 617 (by decide) d_L_law_326 (by first | assumption | omega | exact Nat.lt_of_le_of_lt Nat.and_le_right (by decide)) (by first | assumption | omega | exact Nat.lt_of_le_of_lt Nat.and_le_right (by decide)) (fun h326 => ?_) (fun h326 => ?_) | refine pv_icmp_eq 617 (by decide) d_L_law_326 (fun h326 => ?_) (fun h326 => ?_)
    · exact step _ _ (h0.2.2.2.2.1)
    · exact absurd (rfl) h326
  · have hN := hn0 n hn
    by_cases hd : σ 1 n = 0
    · refine pv_aload_n d_L_law_298 rfl rfl ?_
      refine pv_aload_n d_L_law_299 rfl rfl ?_
      refine pv_iload_n d_L_law_300 rfl rfl ?_
      refine pv_iconst d_L_law_301 (nI 1) (by decide) ?_
      first | refine pv_iaddN d_L_law_302 ?_ | refine pv_iadd d_L_law_302 ?_
      refine pv_sld d_L_law_303 hEx (by omega) (by omega) ?_
      rw [hx]
      refine pv_aload_n d_L_law_304 rfl rfl ?_
      refine pv_iload_n d_L_law_305 rfl rfl ?_
      refine pv_iconst d_L_law_306 (nI 2) (by decide) ?_
      first | refine pv_iaddN d_L_law_307 ?_ | refine pv_iadd d_L_law_307 ?_
      refine pv_sld d_L_law_308 hEx (by omega) (by omega) ?_
      refine pv_callV2I d_L_law_309 (k_O_deafen_out hn (Or.inl hd) ?_) sb_O_deafen wm_L_41 gx_O rfl ⟨wi_O_deafen, we_O_deafen⟩ (by decide) (by decide) (Nat.le_of_ble_eq_true rfl) (by decide) (by decide)
      refine pv_aload_n d_L_law_312 rfl rfl ?_
      refine pv_aload_n d_L_law_313 rfl rfl ?_
      refine pv_iload_n d_L_law_314 rfl rfl ?_
      refine pv_iconst d_L_law_315 (nI 1) (by decide) ?_
      first | refine pv_iaddN d_L_law_316 ?_ | refine pv_iadd d_L_law_316 ?_
      refine pv_sld d_L_law_317 hEx (by omega) (by omega) ?_
      rw [hx]
      refine pv_aload_n d_L_law_318 rfl rfl ?_
      refine pv_iload_n d_L_law_319 rfl rfl ?_
      refine pv_iconst d_L_law_320 (nI 2) (by decide) ?_
      first | refine pv_iaddN d_L_law_321 ?_ | refine pv_iadd d_L_law_321 ?_
      refine pv_sld d_L_law_322 hEx (by omega) (by omega) ?_
      refine pv_callV2I d_L_law_323 (k_Y_deafen_dn rfl hn h0.2.1 (hN.1.2.2.mp hd) ?_) sb_Y_deafen wm_L_44 (gy_Y rfl) rfl ⟨wi_Y_deafen, we_Y_deafen⟩ (by decide) (by decide) (Nat.le_of_ble_eq_true rfl) (by decide) (by decide)
      first | refine pv_icmpN_eq 617 (by decide) d_L_law_326 (by first | assumption | omega | exact Nat.lt_of_le_of_lt Nat.and_le_right (by decide)) (by first | assumption | omega | exact Nat.lt_of_le_of_lt Nat.and_le_right (by decide)) (fun h326 => ?_) (fun h326 => ?_) | refine pv_icmp_eq 617 (by decide) d_L_law_326 (fun h326 => ?_) (fun h326 => ?_)
      · exact step _ _ (h0.2.2.2.2.1)
      · exact absurd (rfl) h326
    · have hu : τ 0 n ≠ 0 := fun q => hd (hN.1.2.2.mpr q)
      rcases pk_ix (xs (3 * c + 2)) (n := 21) (by decide) with hy | hy | ⟨j, hj, hy⟩
      · refine pv_aload_n d_L_law_298 rfl rfl ?_
        refine pv_aload_n d_L_law_299 rfl rfl ?_
        refine pv_iload_n d_L_law_300 rfl rfl ?_
        refine pv_iconst d_L_law_301 (nI 1) (by decide) ?_
        first | refine pv_iaddN d_L_law_302 ?_ | refine pv_iadd d_L_law_302 ?_
        refine pv_sld d_L_law_303 hEx (by omega) (by omega) ?_
        rw [hx]
        refine pv_aload_n d_L_law_304 rfl rfl ?_
        refine pv_iload_n d_L_law_305 rfl rfl ?_
        refine pv_iconst d_L_law_306 (nI 2) (by decide) ?_
        first | refine pv_iaddN d_L_law_307 ?_ | refine pv_iadd d_L_law_307 ?_
        refine pv_sld d_L_law_308 hEx (by omega) (by omega) ?_
        refine pv_callV2I d_L_law_309 (k_O_deafen_out hn (Or.inr (Or.inl hy)) ?_) sb_O_deafen wm_L_41 gx_O rfl ⟨wi_O_deafen, we_O_deafen⟩ (by decide) (by decide) (Nat.le_of_ble_eq_true rfl) (by decide) (by decide)
        refine pv_aload_n d_L_law_312 rfl rfl ?_
        refine pv_aload_n d_L_law_313 rfl rfl ?_
        refine pv_iload_n d_L_law_314 rfl rfl ?_
        refine pv_iconst d_L_law_315 (nI 1) (by decide) ?_
        first | refine pv_iaddN d_L_law_316 ?_ | refine pv_iadd d_L_law_316 ?_
        refine pv_sld d_L_law_317 hEx (by omega) (by omega) ?_
        rw [hx]
        refine pv_aload_n d_L_law_318 rfl rfl ?_
        refine pv_iload_n d_L_law_319 rfl rfl ?_
        refine pv_iconst d_L_law_320 (nI 2) (by decide) ?_
        first | refine pv_iaddN d_L_law_321 ?_ | refine pv_iadd d_L_law_321 ?_
        refine pv_sld d_L_law_322 hEx (by omega) (by omega) ?_
        refine pv_callV2I d_L_law_323 (k_Y_deafen_out rfl hn h0.2.1 hu (Or.inl hy) ?_) sb_Y_deafen wm_L_44 (gy_Y rfl) rfl ⟨wi_Y_deafen, we_Y_deafen⟩ (by decide) (by decide) (Nat.le_of_ble_eq_true rfl) (by decide) (by decide)
        first | refine pv_icmpN_eq 617 (by decide) d_L_law_326 (by first | assumption | omega | exact Nat.lt_of_le_of_lt Nat.and_le_right (by decide)) (by first | assumption | omega | exact Nat.lt_of_le_of_lt Nat.and_le_right (by decide)) (fun h326 => ?_) (fun h326 => ?_) | refine pv_icmp_eq 617 (by decide) d_L_law_326 (fun h326 => ?_) (fun h326 => ?_)
        · exact step _ _ (h0.2.2.2.2.1)
        · exact absurd (rfl) h326
      · refine pv_aload_n d_L_law_298 rfl rfl ?_
        refine pv_aload_n d_L_law_299 rfl rfl ?_
        refine pv_iload_n d_L_law_300 rfl rfl ?_
        refine pv_iconst d_L_law_301 (nI 1) (by decide) ?_
        first | refine pv_iaddN d_L_law_302 ?_ | refine pv_iadd d_L_law_302 ?_
        refine pv_sld d_L_law_303 hEx (by omega) (by omega) ?_
        rw [hx]
        refine pv_aload_n d_L_law_304 rfl rfl ?_
        refine pv_iload_n d_L_law_305 rfl rfl ?_
        refine pv_iconst d_L_law_306 (nI 2) (by decide) ?_
        first | refine pv_iaddN d_L_law_307 ?_ | refine pv_iadd d_L_law_307 ?_
        refine pv_sld d_L_law_308 hEx (by omega) (by omega) ?_
        refine pv_callV2I d_L_law_309 (k_O_deafen_out hn (Or.inr (Or.inr (le_lt (by decide) hy))) ?_) sb_O_deafen wm_L_41 gx_O rfl ⟨wi_O_deafen, we_O_deafen⟩ (by decide) (by decide) (Nat.le_of_ble_eq_true rfl) (by decide) (by decide)
        refine pv_aload_n d_L_law_312 rfl rfl ?_
        refine pv_aload_n d_L_law_313 rfl rfl ?_
        refine pv_iload_n d_L_law_314 rfl rfl ?_
        refine pv_iconst d_L_law_315 (nI 1) (by decide) ?_
        first | refine pv_iaddN d_L_law_316 ?_ | refine pv_iadd d_L_law_316 ?_
        refine pv_sld d_L_law_317 hEx (by omega) (by omega) ?_
        rw [hx]
        refine pv_aload_n d_L_law_318 rfl rfl ?_
        refine pv_iload_n d_L_law_319 rfl rfl ?_
        refine pv_iconst d_L_law_320 (nI 2) (by decide) ?_
        first | refine pv_iaddN d_L_law_321 ?_ | refine pv_iadd d_L_law_321 ?_
        refine pv_sld d_L_law_322 hEx (by omega) (by omega) ?_
        refine pv_callV2I d_L_law_323 (k_Y_deafen_out rfl hn h0.2.1 hu (Or.inr (le_lt (by decide) hy)) ?_) sb_Y_deafen wm_L_44 (gy_Y rfl) rfl ⟨wi_Y_deafen, we_Y_deafen⟩ (by decide) (by decide) (Nat.le_of_ble_eq_true rfl) (by decide) (by decide)
        first | refine pv_icmpN_eq 617 (by decide) d_L_law_326 (by first | assumption | omega | exact Nat.lt_of_le_of_lt Nat.and_le_right (by decide)) (by first | assumption | omega | exact Nat.lt_of_le_of_lt Nat.and_le_right (by decide)) (fun h326 => ?_) (fun h326 => ?_) | refine pv_icmp_eq 617 (by decide) d_L_law_326 (fun h326 => ?_) (fun h326 => ?_)
        · exact step _ _ (h0.2.2.2.2.1)
        · exact absurd (rfl) h326
      · refine pv_aload_n d_L_law_298 rfl rfl ?_
        refine pv_aload_n d_L_law_299 rfl rfl ?_
        refine pv_iload_n d_L_law_300 rfl rfl ?_
        refine pv_iconst d_L_law_301 (nI 1) (by decide) ?_
        first | refine pv_iaddN d_L_law_302 ?_ | refine pv_iadd d_L_law_302 ?_
        refine pv_sld d_L_law_303 hEx (by omega) (by omega) ?_
        rw [hx]
        refine pv_aload_n d_L_law_304 rfl rfl ?_
        refine pv_iload_n d_L_law_305 rfl rfl ?_
        refine pv_iconst d_L_law_306 (nI 2) (by decide) ?_
        first | refine pv_iaddN d_L_law_307 ?_ | refine pv_iadd d_L_law_307 ?_
        refine pv_sld d_L_law_308 hEx (by omega) (by omega) ?_
        rw [hy]
        refine pv_callV2I d_L_law_309 (k_O_deafen hn hd (Nat.le_of_lt_succ hj) ?_) sb_O_deafen wm_L_41 gx_O rfl ⟨wi_O_deafen, we_O_deafen⟩ (by decide) (by decide) (Nat.le_of_ble_eq_true rfl) (by decide) (by decide)
        refine pv_aload_n d_L_law_312 rfl rfl ?_
        refine pv_aload_n d_L_law_313 rfl rfl ?_
        refine pv_iload_n d_L_law_314 rfl rfl ?_
        refine pv_iconst d_L_law_315 (nI 1) (by decide) ?_
        first | refine pv_iaddN d_L_law_316 ?_ | refine pv_iadd d_L_law_316 ?_
        refine pv_sld d_L_law_317 hEx (by omega) (by omega) ?_
        rw [hx]
        refine pv_aload_n d_L_law_318 rfl rfl ?_
        refine pv_iload_n d_L_law_319 rfl rfl ?_
        refine pv_iconst d_L_law_320 (nI 2) (by decide) ?_
        first | refine pv_iaddN d_L_law_321 ?_ | refine pv_iadd d_L_law_321 ?_
        refine pv_sld d_L_law_322 hEx (by omega) (by omega) ?_
        rw [hy]
        refine pv_callV2I d_L_law_323 (k_Y_deafen rfl hn h0.2.1 hu (Nat.le_of_lt_succ hj) ?_) sb_Y_deafen wm_L_44 (gy_Y rfl) rfl ⟨wi_Y_deafen, we_Y_deafen⟩ (by decide) (by decide) (Nat.le_of_ble_eq_true rfl) (by decide) (by decide)
        first | refine pv_icmpN_eq 617 (by decide) d_L_law_326 (by first | assumption | omega | exact Nat.lt_of_le_of_lt Nat.and_le_right (by decide)) (by first | assumption | omega | exact Nat.lt_of_le_of_lt Nat.and_le_right (by decide)) (fun h326 => ?_) (fun h326 => ?_) | refine pv_icmp_eq 617 (by decide) d_L_law_326 (fun h326 => ?_) (fun h326 => ?_)
        · exact step _ _ (hN.2.2.2.2.2.2.2.1 j (Nat.le_of_lt_succ hj) hd)
        · exact absurd (rfl) h326
set_option maxRecDepth 100000 in
set_option maxHeartbeats 2000000 in
theorem law_drop (hS : SimOK Sim) (hL : Ln ≤ 1536) (c : Nat) (σ τ : Nat → Nat → Nat) (hc : c < 512) (hi : 3 * c + 3 ≤ Ln) (hs : Sim c σ τ) (step : ∀ σ1 τ1, Sim (c + 1) σ1 τ1 → pv_V l D ty base b code 4 R_L ret nm room_1 (Exl base b Ln xs) (Qfl b) 61 6344 617 [some (.ref 0), some (.ref (0 + 1)), some (.ref (40 + 1)), some (.int (nI (3 * c)))] [] (memX σ1 ++ memY τ1)) : pv_V l D ty base b code 4 R_L ret nm room_1 (Exl base b Ln xs) (Qfl b) 61 6344 331 [some (.ref 0), some (.ref (0 + 1)), some (.ref (40 + 1)), some (.int (nI (3 * c)))] [] (memX σ ++ memY τ) := by
  have hEx : ∀ s, Exl base b Ln xs s → va_X b Ln xs s s.heap ∧ b < base := fun s h => h.2
  obtain ⟨h0, hn0⟩ := hS c σ τ hc hs
  rcases ix5 (xs (3 * c + 1)) with hx | ⟨n, hn, hx⟩
  · refine pv_aload_n d_L_law_331 rfl rfl ?_
    refine pv_aload_n d_L_law_332 rfl rfl ?_
    refine pv_iload_n d_L_law_333 rfl rfl ?_
    refine pv_iconst d_L_law_334 (nI 1) (by decide) ?_
    first | refine pv_iaddN d_L_law_335 ?_ | refine pv_iadd d_L_law_335 ?_
    refine pv_sld d_L_law_336 hEx (by omega) (by omega) ?_
    refine pv_callV1I d_L_law_337 (k_O_drop_no hx ?_) sb_O_drop wm_L_45 gx_O rfl ⟨wi_O_drop, we_O_drop⟩ (by decide) (by decide) (Nat.le_of_ble_eq_true rfl) (by decide) (by decide)
    refine pv_aload_n d_L_law_340 rfl rfl ?_
    refine pv_aload_n d_L_law_341 rfl rfl ?_
    refine pv_iload_n d_L_law_342 rfl rfl ?_
    refine pv_iconst d_L_law_343 (nI 1) (by decide) ?_
    first | refine pv_iaddN d_L_law_344 ?_ | refine pv_iadd d_L_law_344 ?_
    refine pv_sld d_L_law_345 hEx (by omega) (by omega) ?_
    refine pv_callV1I d_L_law_346 (k_Y_drop_no rfl (five_four hx) ?_) sb_Y_drop wm_L_48 (gy_Y rfl) rfl ⟨wi_Y_drop, we_Y_drop⟩ (by decide) (by decide) (Nat.le_of_ble_eq_true rfl) (by decide) (by decide)
    first | refine pv_icmpN_eq 617 (by decide) d_L_law_349 (by first | assumption | omega | exact Nat.lt_of_le_of_lt Nat.and_le_right (by decide)) (by first | assumption | omega | exact Nat.lt_of_le_of_lt Nat.and_le_right (by decide)) (fun h349 => ?_) (fun h349 => ?_) | refine pv_icmp_eq 617 (by decide) d_L_law_349 (fun h349 => ?_) (fun h349 => ?_)
    · exact step _ _ (h0.2.2.2.2.1)
    · exact absurd (rfl) h349
  · have hN := hn0 n hn
    refine pv_aload_n d_L_law_331 rfl rfl ?_
    refine pv_aload_n d_L_law_332 rfl rfl ?_
    refine pv_iload_n d_L_law_333 rfl rfl ?_
    refine pv_iconst d_L_law_334 (nI 1) (by decide) ?_
    first | refine pv_iaddN d_L_law_335 ?_ | refine pv_iadd d_L_law_335 ?_
    refine pv_sld d_L_law_336 hEx (by omega) (by omega) ?_
    rw [hx]
    refine pv_callV1I d_L_law_337 (k_O_drop hn h0.1 ?_) sb_O_drop wm_L_45 gx_O rfl ⟨wi_O_drop, we_O_drop⟩ (by decide) (by decide) (Nat.le_of_ble_eq_true rfl) (by decide) (by decide)
    refine pv_aload_n d_L_law_340 rfl rfl ?_
    refine pv_aload_n d_L_law_341 rfl rfl ?_
    refine pv_iload_n d_L_law_342 rfl rfl ?_
    refine pv_iconst d_L_law_343 (nI 1) (by decide) ?_
    first | refine pv_iaddN d_L_law_344 ?_ | refine pv_iadd d_L_law_344 ?_
    refine pv_sld d_L_law_345 hEx (by omega) (by omega) ?_
    rw [hx]
    refine pv_callV1I d_L_law_346 (k_Y_drop rfl hn h0.2.1 ?_) sb_Y_drop wm_L_48 (gy_Y rfl) rfl ⟨wi_Y_drop, we_Y_drop⟩ (by decide) (by decide) (Nat.le_of_ble_eq_true rfl) (by decide) (by decide)
    first | refine pv_icmpN_eq 617 (by decide) d_L_law_349 (by first | assumption | omega | exact Nat.lt_of_le_of_lt Nat.and_le_right (by decide)) (by first | assumption | omega | exact Nat.lt_of_le_of_lt Nat.and_le_right (by decide)) (fun h349 => ?_) (fun h349 => ?_) | refine pv_icmp_eq 617 (by decide) d_L_law_349 (fun h349 => ?_) (fun h349 => ?_)
    · exact step _ _ (hN.2.2.2.2.2.2.2.2.1.2)
    · exact absurd (hN.2.2.2.2.2.2.2.2.1.1) h349
set_option maxRecDepth 100000 in
set_option maxHeartbeats 2000000 in
theorem law_ring (hS : SimOK Sim) (hL : Ln ≤ 1536) (c : Nat) (σ τ : Nat → Nat → Nat) (hc : c < 512) (hi : 3 * c + 3 ≤ Ln) (hs : Sim c σ τ) (step : ∀ σ1 τ1, Sim (c + 1) σ1 τ1 → pv_V l D ty base b code 4 R_L ret nm room_1 (Exl base b Ln xs) (Qfl b) 61 6344 617 [some (.ref 0), some (.ref (0 + 1)), some (.ref (40 + 1)), some (.int (nI (3 * c)))] [] (memX σ1 ++ memY τ1)) : pv_V l D ty base b code 4 R_L ret nm room_1 (Exl base b Ln xs) (Qfl b) 61 6344 354 [some (.ref 0), some (.ref (0 + 1)), some (.ref (40 + 1)), some (.int (nI (3 * c)))] [] (memX σ ++ memY τ) := by
  have hEx : ∀ s, Exl base b Ln xs s → va_X b Ln xs s s.heap ∧ b < base := fun s h => h.2
  obtain ⟨h0, hn0⟩ := hS c σ τ hc hs
  rcases ix5 (xs (3 * c + 1)) with hx | ⟨n, hn, hx⟩
  · refine pv_aload_n d_L_law_354 rfl rfl ?_
    refine pv_aload_n d_L_law_355 rfl rfl ?_
    refine pv_iload_n d_L_law_356 rfl rfl ?_
    refine pv_iconst d_L_law_357 (nI 1) (by decide) ?_
    first | refine pv_iaddN d_L_law_358 ?_ | refine pv_iadd d_L_law_358 ?_
    refine pv_sld d_L_law_359 hEx (by omega) (by omega) ?_
    refine pv_callV1I d_L_law_360 (k_O_ring_no hx ?_) sb_O_ring wm_L_49 gx_O rfl ⟨wi_O_ring, we_O_ring⟩ (by decide) (by decide) (Nat.le_of_ble_eq_true rfl) (by decide) (by decide)
    refine pv_aload_n d_L_law_363 rfl rfl ?_
    refine pv_aload_n d_L_law_364 rfl rfl ?_
    refine pv_iload_n d_L_law_365 rfl rfl ?_
    refine pv_iconst d_L_law_366 (nI 1) (by decide) ?_
    first | refine pv_iaddN d_L_law_367 ?_ | refine pv_iadd d_L_law_367 ?_
    refine pv_sld d_L_law_368 hEx (by omega) (by omega) ?_
    refine pv_callV1I d_L_law_369 (k_Y_ring_no rfl (five_four hx) ?_) sb_Y_ring wm_L_52 (gy_Y rfl) rfl ⟨wi_Y_ring, we_Y_ring⟩ (by decide) (by decide) (Nat.le_of_ble_eq_true rfl) (by decide) (by decide)
    first | refine pv_icmpN_eq 617 (by decide) d_L_law_372 (by first | assumption | omega | exact Nat.lt_of_le_of_lt Nat.and_le_right (by decide)) (by first | assumption | omega | exact Nat.lt_of_le_of_lt Nat.and_le_right (by decide)) (fun h372 => ?_) (fun h372 => ?_) | refine pv_icmp_eq 617 (by decide) d_L_law_372 (fun h372 => ?_) (fun h372 => ?_)
    · exact step _ _ (h0.2.2.2.2.1)
    · exact absurd (rfl) h372
  · have hN := hn0 n hn
    refine pv_aload_n d_L_law_354 rfl rfl ?_
    refine pv_aload_n d_L_law_355 rfl rfl ?_
    refine pv_iload_n d_L_law_356 rfl rfl ?_
    refine pv_iconst d_L_law_357 (nI 1) (by decide) ?_
    first | refine pv_iaddN d_L_law_358 ?_ | refine pv_iadd d_L_law_358 ?_
    refine pv_sld d_L_law_359 hEx (by omega) (by omega) ?_
    rw [hx]
    refine pv_callV1I d_L_law_360 (k_O_ring hn h0.1 ?_) sb_O_ring wm_L_49 gx_O rfl ⟨wi_O_ring, we_O_ring⟩ (by decide) (by decide) (Nat.le_of_ble_eq_true rfl) (by decide) (by decide)
    refine pv_aload_n d_L_law_363 rfl rfl ?_
    refine pv_aload_n d_L_law_364 rfl rfl ?_
    refine pv_iload_n d_L_law_365 rfl rfl ?_
    refine pv_iconst d_L_law_366 (nI 1) (by decide) ?_
    first | refine pv_iaddN d_L_law_367 ?_ | refine pv_iadd d_L_law_367 ?_
    refine pv_sld d_L_law_368 hEx (by omega) (by omega) ?_
    rw [hx]
    refine pv_callV1I d_L_law_369 (k_Y_ring rfl hn h0.2.1 ?_) sb_Y_ring wm_L_52 (gy_Y rfl) rfl ⟨wi_Y_ring, we_Y_ring⟩ (by decide) (by decide) (Nat.le_of_ble_eq_true rfl) (by decide) (by decide)
    first | refine pv_icmpN_eq 617 (by decide) d_L_law_372 (by first | assumption | omega | exact Nat.lt_of_le_of_lt Nat.and_le_right (by decide)) (by first | assumption | omega | exact Nat.lt_of_le_of_lt Nat.and_le_right (by decide)) (fun h372 => ?_) (fun h372 => ?_) | refine pv_icmp_eq 617 (by decide) d_L_law_372 (fun h372 => ?_) (fun h372 => ?_)
    · exact step _ _ (h0.2.2.2.2.1)
    · exact absurd (hN.2.2.2.2.2.2.2.2.2.1.1) h372
set_option maxRecDepth 100000 in
set_option maxHeartbeats 2000000 in
theorem law_members (hS : SimOK Sim) (hL : Ln ≤ 1536) (c : Nat) (σ τ : Nat → Nat → Nat) (hc : c < 512) (hi : 3 * c + 3 ≤ Ln) (hs : Sim c σ τ) (step : ∀ σ1 τ1, Sim (c + 1) σ1 τ1 → pv_V l D ty base b code 4 R_L ret nm room_1 (Exl base b Ln xs) (Qfl b) 61 6344 617 [some (.ref 0), some (.ref (0 + 1)), some (.ref (40 + 1)), some (.int (nI (3 * c)))] [] (memX σ1 ++ memY τ1)) : pv_V l D ty base b code 4 R_L ret nm room_1 (Exl base b Ln xs) (Qfl b) 61 6344 377 [some (.ref 0), some (.ref (0 + 1)), some (.ref (40 + 1)), some (.int (nI (3 * c)))] [] (memX σ ++ memY τ) := by
  have hEx : ∀ s, Exl base b Ln xs s → va_X b Ln xs s s.heap ∧ b < base := fun s h => h.2
  obtain ⟨h0, hn0⟩ := hS c σ τ hc hs
  rcases ix5 (xs (3 * c + 1)) with hx | ⟨n, hn, hx⟩
  · refine pv_aload_n d_L_law_377 rfl rfl ?_
    refine pv_aload_n d_L_law_378 rfl rfl ?_
    refine pv_iload_n d_L_law_379 rfl rfl ?_
    refine pv_iconst d_L_law_380 (nI 1) (by decide) ?_
    first | refine pv_iaddN d_L_law_381 ?_ | refine pv_iadd d_L_law_381 ?_
    refine pv_sld d_L_law_382 hEx (by omega) (by omega) ?_
    refine pv_callV1I d_L_law_383 (k_O_members_no hx ?_) sb_O_members wm_L_53 gx_O rfl ⟨wi_O_members, we_O_members⟩ (by decide) (by decide) (Nat.le_of_ble_eq_true rfl) (by decide) (by decide)
    refine pv_aload_n d_L_law_386 rfl rfl ?_
    refine pv_aload_n d_L_law_387 rfl rfl ?_
    refine pv_iload_n d_L_law_388 rfl rfl ?_
    refine pv_iconst d_L_law_389 (nI 1) (by decide) ?_
    first | refine pv_iaddN d_L_law_390 ?_ | refine pv_iadd d_L_law_390 ?_
    refine pv_sld d_L_law_391 hEx (by omega) (by omega) ?_
    refine pv_callV1I d_L_law_392 (k_Y_members_no rfl (five_four hx) ?_) sb_Y_members wm_L_56 (gy_Y rfl) rfl ⟨wi_Y_members, we_Y_members⟩ (by decide) (by decide) (Nat.le_of_ble_eq_true rfl) (by decide) (by decide)
    first | refine pv_icmpN_eq 617 (by decide) d_L_law_395 (by first | assumption | omega | exact Nat.lt_of_le_of_lt Nat.and_le_right (by decide)) (by first | assumption | omega | exact Nat.lt_of_le_of_lt Nat.and_le_right (by decide)) (fun h395 => ?_) (fun h395 => ?_) | refine pv_icmp_eq 617 (by decide) d_L_law_395 (fun h395 => ?_) (fun h395 => ?_)
    · exact step _ _ (h0.2.2.2.2.1)
    · exact absurd (rfl) h395
  · have hN := hn0 n hn
    refine pv_aload_n d_L_law_377 rfl rfl ?_
    refine pv_aload_n d_L_law_378 rfl rfl ?_
    refine pv_iload_n d_L_law_379 rfl rfl ?_
    refine pv_iconst d_L_law_380 (nI 1) (by decide) ?_
    first | refine pv_iaddN d_L_law_381 ?_ | refine pv_iadd d_L_law_381 ?_
    refine pv_sld d_L_law_382 hEx (by omega) (by omega) ?_
    rw [hx]
    refine pv_callV1I d_L_law_383 (k_O_members hn h0.1 ?_) sb_O_members wm_L_53 gx_O rfl ⟨wi_O_members, we_O_members⟩ (by decide) (by decide) (Nat.le_of_ble_eq_true rfl) (by decide) (by decide)
    refine pv_aload_n d_L_law_386 rfl rfl ?_
    refine pv_aload_n d_L_law_387 rfl rfl ?_
    refine pv_iload_n d_L_law_388 rfl rfl ?_
    refine pv_iconst d_L_law_389 (nI 1) (by decide) ?_
    first | refine pv_iaddN d_L_law_390 ?_ | refine pv_iadd d_L_law_390 ?_
    refine pv_sld d_L_law_391 hEx (by omega) (by omega) ?_
    rw [hx]
    refine pv_callV1I d_L_law_392 (k_Y_members rfl hn h0.2.1 ?_) sb_Y_members wm_L_56 (gy_Y rfl) rfl ⟨wi_Y_members, we_Y_members⟩ (by decide) (by decide) (Nat.le_of_ble_eq_true rfl) (by decide) (by decide)
    first | refine pv_icmpN_eq 617 (by decide) d_L_law_395 (by first | assumption | omega | exact Nat.lt_of_le_of_lt Nat.and_le_right (by decide)) (by first | assumption | omega | exact Nat.lt_of_le_of_lt Nat.and_le_right (by decide)) (fun h395 => ?_) (fun h395 => ?_) | refine pv_icmp_eq 617 (by decide) d_L_law_395 (fun h395 => ?_) (fun h395 => ?_)
    · exact step _ _ (h0.2.2.2.2.1)
    · exact absurd (hN.2.2.2.2.2.2.2.2.2.1.2.1) h395
set_option maxRecDepth 100000 in
set_option maxHeartbeats 2000000 in
theorem law_token (hS : SimOK Sim) (hL : Ln ≤ 1536) (c : Nat) (σ τ : Nat → Nat → Nat) (hc : c < 512) (hi : 3 * c + 3 ≤ Ln) (hs : Sim c σ τ) (step : ∀ σ1 τ1, Sim (c + 1) σ1 τ1 → pv_V l D ty base b code 4 R_L ret nm room_1 (Exl base b Ln xs) (Qfl b) 61 6344 617 [some (.ref 0), some (.ref (0 + 1)), some (.ref (40 + 1)), some (.int (nI (3 * c)))] [] (memX σ1 ++ memY τ1)) : pv_V l D ty base b code 4 R_L ret nm room_1 (Exl base b Ln xs) (Qfl b) 61 6344 400 [some (.ref 0), some (.ref (0 + 1)), some (.ref (40 + 1)), some (.int (nI (3 * c)))] [] (memX σ ++ memY τ) := by
  have hEx : ∀ s, Exl base b Ln xs s → va_X b Ln xs s s.heap ∧ b < base := fun s h => h.2
  obtain ⟨h0, hn0⟩ := hS c σ τ hc hs
  rcases ix5 (xs (3 * c + 1)) with hx | ⟨n, hn, hx⟩
  · refine pv_aload_n d_L_law_400 rfl rfl ?_
    refine pv_aload_n d_L_law_401 rfl rfl ?_
    refine pv_iload_n d_L_law_402 rfl rfl ?_
    refine pv_iconst d_L_law_403 (nI 1) (by decide) ?_
    first | refine pv_iaddN d_L_law_404 ?_ | refine pv_iadd d_L_law_404 ?_
    refine pv_sld d_L_law_405 hEx (by omega) (by omega) ?_
    refine pv_callV1I d_L_law_406 (k_O_token_no hx ?_) sb_O_token wm_L_57 gx_O rfl ⟨wi_O_token, we_O_token⟩ (by decide) (by decide) (Nat.le_of_ble_eq_true rfl) (by decide) (by decide)
    refine pv_aload_n d_L_law_409 rfl rfl ?_
    refine pv_aload_n d_L_law_410 rfl rfl ?_
    refine pv_iload_n d_L_law_411 rfl rfl ?_
    refine pv_iconst d_L_law_412 (nI 1) (by decide) ?_
    first | refine pv_iaddN d_L_law_413 ?_ | refine pv_iadd d_L_law_413 ?_
    refine pv_sld d_L_law_414 hEx (by omega) (by omega) ?_
    refine pv_callV1I d_L_law_415 (k_Y_token_no rfl (five_four hx) ?_) sb_Y_token wm_L_60 (gy_Y rfl) rfl ⟨wi_Y_token, we_Y_token⟩ (by decide) (by decide) (Nat.le_of_ble_eq_true rfl) (by decide) (by decide)
    first | refine pv_icmpN_eq 617 (by decide) d_L_law_418 (by first | assumption | omega | exact Nat.lt_of_le_of_lt Nat.and_le_right (by decide)) (by first | assumption | omega | exact Nat.lt_of_le_of_lt Nat.and_le_right (by decide)) (fun h418 => ?_) (fun h418 => ?_) | refine pv_icmp_eq 617 (by decide) d_L_law_418 (fun h418 => ?_) (fun h418 => ?_)
    · exact step _ _ (h0.2.2.2.2.1)
    · exact absurd (rfl) h418
  · have hN := hn0 n hn
    refine pv_aload_n d_L_law_400 rfl rfl ?_
    refine pv_aload_n d_L_law_401 rfl rfl ?_
    refine pv_iload_n d_L_law_402 rfl rfl ?_
    refine pv_iconst d_L_law_403 (nI 1) (by decide) ?_
    first | refine pv_iaddN d_L_law_404 ?_ | refine pv_iadd d_L_law_404 ?_
    refine pv_sld d_L_law_405 hEx (by omega) (by omega) ?_
    rw [hx]
    refine pv_callV1I d_L_law_406 (k_O_token hn h0.1 ?_) sb_O_token wm_L_57 gx_O rfl ⟨wi_O_token, we_O_token⟩ (by decide) (by decide) (Nat.le_of_ble_eq_true rfl) (by decide) (by decide)
    refine pv_aload_n d_L_law_409 rfl rfl ?_
    refine pv_aload_n d_L_law_410 rfl rfl ?_
    refine pv_iload_n d_L_law_411 rfl rfl ?_
    refine pv_iconst d_L_law_412 (nI 1) (by decide) ?_
    first | refine pv_iaddN d_L_law_413 ?_ | refine pv_iadd d_L_law_413 ?_
    refine pv_sld d_L_law_414 hEx (by omega) (by omega) ?_
    rw [hx]
    refine pv_callV1I d_L_law_415 (k_Y_token rfl hn h0.2.1 ?_) sb_Y_token wm_L_60 (gy_Y rfl) rfl ⟨wi_Y_token, we_Y_token⟩ (by decide) (by decide) (Nat.le_of_ble_eq_true rfl) (by decide) (by decide)
    first | refine pv_icmpN_eq 617 (by decide) d_L_law_418 (by first | assumption | omega | exact Nat.lt_of_le_of_lt Nat.and_le_right (by decide)) (by first | assumption | omega | exact Nat.lt_of_le_of_lt Nat.and_le_right (by decide)) (fun h418 => ?_) (fun h418 => ?_) | refine pv_icmp_eq 617 (by decide) d_L_law_418 (fun h418 => ?_) (fun h418 => ?_)
    · exact step _ _ (h0.2.2.2.2.1)
    · exact absurd (hN.2.2.2.2.2.2.2.2.2.1.2.2.1) h418
set_option maxRecDepth 100000 in
set_option maxHeartbeats 2000000 in
theorem law_last (hS : SimOK Sim) (hL : Ln ≤ 1536) (c : Nat) (σ τ : Nat → Nat → Nat) (hc : c < 512) (hi : 3 * c + 3 ≤ Ln) (hs : Sim c σ τ) (step : ∀ σ1 τ1, Sim (c + 1) σ1 τ1 → pv_V l D ty base b code 4 R_L ret nm room_1 (Exl base b Ln xs) (Qfl b) 61 6344 617 [some (.ref 0), some (.ref (0 + 1)), some (.ref (40 + 1)), some (.int (nI (3 * c)))] [] (memX σ1 ++ memY τ1)) : pv_V l D ty base b code 4 R_L ret nm room_1 (Exl base b Ln xs) (Qfl b) 61 6344 423 [some (.ref 0), some (.ref (0 + 1)), some (.ref (40 + 1)), some (.int (nI (3 * c)))] [] (memX σ ++ memY τ) := by
  have hEx : ∀ s, Exl base b Ln xs s → va_X b Ln xs s s.heap ∧ b < base := fun s h => h.2
  obtain ⟨h0, hn0⟩ := hS c σ τ hc hs
  rcases ix5 (xs (3 * c + 1)) with hx | ⟨n, hn, hx⟩
  · refine pv_aload_n d_L_law_423 rfl rfl ?_
    refine pv_aload_n d_L_law_424 rfl rfl ?_
    refine pv_iload_n d_L_law_425 rfl rfl ?_
    refine pv_iconst d_L_law_426 (nI 1) (by decide) ?_
    first | refine pv_iaddN d_L_law_427 ?_ | refine pv_iadd d_L_law_427 ?_
    refine pv_sld d_L_law_428 hEx (by omega) (by omega) ?_
    refine pv_callV1I d_L_law_429 (k_O_last_no hx ?_) sb_O_last wm_L_61 gx_O rfl ⟨wi_O_last, we_O_last⟩ (by decide) (by decide) (Nat.le_of_ble_eq_true rfl) (by decide) (by decide)
    refine pv_aload_n d_L_law_432 rfl rfl ?_
    refine pv_aload_n d_L_law_433 rfl rfl ?_
    refine pv_iload_n d_L_law_434 rfl rfl ?_
    refine pv_iconst d_L_law_435 (nI 1) (by decide) ?_
    first | refine pv_iaddN d_L_law_436 ?_ | refine pv_iadd d_L_law_436 ?_
    refine pv_sld d_L_law_437 hEx (by omega) (by omega) ?_
    refine pv_callV1I d_L_law_438 (k_Y_last_no rfl (five_four hx) ?_) sb_Y_last wm_L_64 (gy_Y rfl) rfl ⟨wi_Y_last, we_Y_last⟩ (by decide) (by decide) (Nat.le_of_ble_eq_true rfl) (by decide) (by decide)
    first | refine pv_icmpN_eq 617 (by decide) d_L_law_441 (by first | assumption | omega | exact Nat.lt_of_le_of_lt Nat.and_le_right (by decide)) (by first | assumption | omega | exact Nat.lt_of_le_of_lt Nat.and_le_right (by decide)) (fun h441 => ?_) (fun h441 => ?_) | refine pv_icmp_eq 617 (by decide) d_L_law_441 (fun h441 => ?_) (fun h441 => ?_)
    · exact step _ _ (h0.2.2.2.2.1)
    · exact absurd (rfl) h441
  · have hN := hn0 n hn
    refine pv_aload_n d_L_law_423 rfl rfl ?_
    refine pv_aload_n d_L_law_424 rfl rfl ?_
    refine pv_iload_n d_L_law_425 rfl rfl ?_
    refine pv_iconst d_L_law_426 (nI 1) (by decide) ?_
    first | refine pv_iaddN d_L_law_427 ?_ | refine pv_iadd d_L_law_427 ?_
    refine pv_sld d_L_law_428 hEx (by omega) (by omega) ?_
    rw [hx]
    refine pv_callV1I d_L_law_429 (k_O_last hn h0.1 ?_) sb_O_last wm_L_61 gx_O rfl ⟨wi_O_last, we_O_last⟩ (by decide) (by decide) (Nat.le_of_ble_eq_true rfl) (by decide) (by decide)
    refine pv_aload_n d_L_law_432 rfl rfl ?_
    refine pv_aload_n d_L_law_433 rfl rfl ?_
    refine pv_iload_n d_L_law_434 rfl rfl ?_
    refine pv_iconst d_L_law_435 (nI 1) (by decide) ?_
    first | refine pv_iaddN d_L_law_436 ?_ | refine pv_iadd d_L_law_436 ?_
    refine pv_sld d_L_law_437 hEx (by omega) (by omega) ?_
    rw [hx]
    refine pv_callV1I d_L_law_438 (k_Y_last rfl hn h0.2.1 ?_) sb_Y_last wm_L_64 (gy_Y rfl) rfl ⟨wi_Y_last, we_Y_last⟩ (by decide) (by decide) (Nat.le_of_ble_eq_true rfl) (by decide) (by decide)
    first | refine pv_icmpN_eq 617 (by decide) d_L_law_441 (by first | assumption | omega | exact Nat.lt_of_le_of_lt Nat.and_le_right (by decide)) (by first | assumption | omega | exact Nat.lt_of_le_of_lt Nat.and_le_right (by decide)) (fun h441 => ?_) (fun h441 => ?_) | refine pv_icmp_eq 617 (by decide) d_L_law_441 (fun h441 => ?_) (fun h441 => ?_)
    · exact step _ _ (h0.2.2.2.2.1)
    · exact absurd (hN.2.2.2.2.2.2.2.2.2.1.2.2.2.1) h441
set_option maxRecDepth 100000 in
set_option maxHeartbeats 2000000 in
theorem law_requests (hS : SimOK Sim) (hL : Ln ≤ 1536) (c : Nat) (σ τ : Nat → Nat → Nat) (hc : c < 512) (hi : 3 * c + 3 ≤ Ln) (hs : Sim c σ τ) (step : ∀ σ1 τ1, Sim (c + 1) σ1 τ1 → pv_V l D ty base b code 4 R_L ret nm room_1 (Exl base b Ln xs) (Qfl b) 61 6344 617 [some (.ref 0), some (.ref (0 + 1)), some (.ref (40 + 1)), some (.int (nI (3 * c)))] [] (memX σ1 ++ memY τ1)) : pv_V l D ty base b code 4 R_L ret nm room_1 (Exl base b Ln xs) (Qfl b) 61 6344 446 [some (.ref 0), some (.ref (0 + 1)), some (.ref (40 + 1)), some (.int (nI (3 * c)))] [] (memX σ ++ memY τ) := by
  have hEx : ∀ s, Exl base b Ln xs s → va_X b Ln xs s s.heap ∧ b < base := fun s h => h.2
  obtain ⟨h0, hn0⟩ := hS c σ τ hc hs
  rcases ix5 (xs (3 * c + 1)) with hx | ⟨n, hn, hx⟩
  · refine pv_aload_n d_L_law_446 rfl rfl ?_
    refine pv_aload_n d_L_law_447 rfl rfl ?_
    refine pv_iload_n d_L_law_448 rfl rfl ?_
    refine pv_iconst d_L_law_449 (nI 1) (by decide) ?_
    first | refine pv_iaddN d_L_law_450 ?_ | refine pv_iadd d_L_law_450 ?_
    refine pv_sld d_L_law_451 hEx (by omega) (by omega) ?_
    refine pv_callV1I d_L_law_452 (k_O_requests_no hx ?_) sb_O_requests wm_L_65 gx_O rfl ⟨wi_O_requests, we_O_requests⟩ (by decide) (by decide) (Nat.le_of_ble_eq_true rfl) (by decide) (by decide)
    refine pv_aload_n d_L_law_455 rfl rfl ?_
    refine pv_aload_n d_L_law_456 rfl rfl ?_
    refine pv_iload_n d_L_law_457 rfl rfl ?_
    refine pv_iconst d_L_law_458 (nI 1) (by decide) ?_
    first | refine pv_iaddN d_L_law_459 ?_ | refine pv_iadd d_L_law_459 ?_
    refine pv_sld d_L_law_460 hEx (by omega) (by omega) ?_
    refine pv_callV1I d_L_law_461 (k_Y_requests_no rfl (five_four hx) ?_) sb_Y_requests wm_L_68 (gy_Y rfl) rfl ⟨wi_Y_requests, we_Y_requests⟩ (by decide) (by decide) (Nat.le_of_ble_eq_true rfl) (by decide) (by decide)
    first | refine pv_icmpN_eq 617 (by decide) d_L_law_464 (by first | assumption | omega | exact Nat.lt_of_le_of_lt Nat.and_le_right (by decide)) (by first | assumption | omega | exact Nat.lt_of_le_of_lt Nat.and_le_right (by decide)) (fun h464 => ?_) (fun h464 => ?_) | refine pv_icmp_eq 617 (by decide) d_L_law_464 (fun h464 => ?_) (fun h464 => ?_)
    · exact step _ _ (h0.2.2.2.2.1)
    · exact absurd (rfl) h464
  · have hN := hn0 n hn
    refine pv_aload_n d_L_law_446 rfl rfl ?_
    refine pv_aload_n d_L_law_447 rfl rfl ?_
    refine pv_iload_n d_L_law_448 rfl rfl ?_
    refine pv_iconst d_L_law_449 (nI 1) (by decide) ?_
    first | refine pv_iaddN d_L_law_450 ?_ | refine pv_iadd d_L_law_450 ?_
    refine pv_sld d_L_law_451 hEx (by omega) (by omega) ?_
    rw [hx]
    refine pv_callV1I d_L_law_452 (k_O_requests hn h0.1 ?_) sb_O_requests wm_L_65 gx_O rfl ⟨wi_O_requests, we_O_requests⟩ (by decide) (by decide) (Nat.le_of_ble_eq_true rfl) (by decide) (by decide)
    refine pv_aload_n d_L_law_455 rfl rfl ?_
    refine pv_aload_n d_L_law_456 rfl rfl ?_
    refine pv_iload_n d_L_law_457 rfl rfl ?_
    refine pv_iconst d_L_law_458 (nI 1) (by decide) ?_
    first | refine pv_iaddN d_L_law_459 ?_ | refine pv_iadd d_L_law_459 ?_
    refine pv_sld d_L_law_460 hEx (by omega) (by omega) ?_
    rw [hx]
    refine pv_callV1I d_L_law_461 (k_Y_requests rfl hn h0.2.1 ?_) sb_Y_requests wm_L_68 (gy_Y rfl) rfl ⟨wi_Y_requests, we_Y_requests⟩ (by decide) (by decide) (Nat.le_of_ble_eq_true rfl) (by decide) (by decide)
    first | refine pv_icmpN_eq 617 (by decide) d_L_law_464 (by first | assumption | omega | exact Nat.lt_of_le_of_lt Nat.and_le_right (by decide)) (by first | assumption | omega | exact Nat.lt_of_le_of_lt Nat.and_le_right (by decide)) (fun h464 => ?_) (fun h464 => ?_) | refine pv_icmp_eq 617 (by decide) d_L_law_464 (fun h464 => ?_) (fun h464 => ?_)
    · exact step _ _ (h0.2.2.2.2.1)
    · exact absurd (hN.2.2.2.2.2.2.2.2.2.1.2.2.2.2.1) h464
set_option maxRecDepth 100000 in
set_option maxHeartbeats 2000000 in
theorem law_reach (hS : SimOK Sim) (hL : Ln ≤ 1536) (c : Nat) (σ τ : Nat → Nat → Nat) (hc : c < 512) (hi : 3 * c + 3 ≤ Ln) (hs : Sim c σ τ) (step : ∀ σ1 τ1, Sim (c + 1) σ1 τ1 → pv_V l D ty base b code 4 R_L ret nm room_1 (Exl base b Ln xs) (Qfl b) 61 6344 617 [some (.ref 0), some (.ref (0 + 1)), some (.ref (40 + 1)), some (.int (nI (3 * c)))] [] (memX σ1 ++ memY τ1)) : pv_V l D ty base b code 4 R_L ret nm room_1 (Exl base b Ln xs) (Qfl b) 61 6344 469 [some (.ref 0), some (.ref (0 + 1)), some (.ref (40 + 1)), some (.int (nI (3 * c)))] [] (memX σ ++ memY τ) := by
  have hEx : ∀ s, Exl base b Ln xs s → va_X b Ln xs s s.heap ∧ b < base := fun s h => h.2
  obtain ⟨h0, hn0⟩ := hS c σ τ hc hs
  rcases ix5 (xs (3 * c + 1)) with hx | ⟨n, hn, hx⟩
  · refine pv_aload_n d_L_law_469 rfl rfl ?_
    refine pv_aload_n d_L_law_470 rfl rfl ?_
    refine pv_iload_n d_L_law_471 rfl rfl ?_
    refine pv_iconst d_L_law_472 (nI 1) (by decide) ?_
    first | refine pv_iaddN d_L_law_473 ?_ | refine pv_iadd d_L_law_473 ?_
    refine pv_sld d_L_law_474 hEx (by omega) (by omega) ?_
    refine pv_callV1I d_L_law_475 (k_O_reach_no hx ?_) sb_O_reach wm_L_69 gx_O rfl ⟨wi_O_reach, we_O_reach⟩ (by decide) (by decide) (Nat.le_of_ble_eq_true rfl) (by decide) (by decide)
    refine pv_aload_n d_L_law_478 rfl rfl ?_
    refine pv_aload_n d_L_law_479 rfl rfl ?_
    refine pv_iload_n d_L_law_480 rfl rfl ?_
    refine pv_iconst d_L_law_481 (nI 1) (by decide) ?_
    first | refine pv_iaddN d_L_law_482 ?_ | refine pv_iadd d_L_law_482 ?_
    refine pv_sld d_L_law_483 hEx (by omega) (by omega) ?_
    refine pv_callV1I d_L_law_484 (k_Y_reach_no rfl (five_four hx) ?_) sb_Y_reach wm_L_72 (gy_Y rfl) rfl ⟨wi_Y_reach, we_Y_reach⟩ (by decide) (by decide) (Nat.le_of_ble_eq_true rfl) (by decide) (by decide)
    first | refine pv_icmpN_eq 617 (by decide) d_L_law_487 (by first | assumption | omega | exact Nat.lt_of_le_of_lt Nat.and_le_right (by decide)) (by first | assumption | omega | exact Nat.lt_of_le_of_lt Nat.and_le_right (by decide)) (fun h487 => ?_) (fun h487 => ?_) | refine pv_icmp_eq 617 (by decide) d_L_law_487 (fun h487 => ?_) (fun h487 => ?_)
    · exact step _ _ (h0.2.2.2.2.1)
    · exact absurd (rfl) h487
  · have hN := hn0 n hn
    refine pv_aload_n d_L_law_469 rfl rfl ?_
    refine pv_aload_n d_L_law_470 rfl rfl ?_
    refine pv_iload_n d_L_law_471 rfl rfl ?_
    refine pv_iconst d_L_law_472 (nI 1) (by decide) ?_
    first | refine pv_iaddN d_L_law_473 ?_ | refine pv_iadd d_L_law_473 ?_
    refine pv_sld d_L_law_474 hEx (by omega) (by omega) ?_
    rw [hx]
    refine pv_callV1I d_L_law_475 (k_O_reach hn h0.1 ?_) sb_O_reach wm_L_69 gx_O rfl ⟨wi_O_reach, we_O_reach⟩ (by decide) (by decide) (Nat.le_of_ble_eq_true rfl) (by decide) (by decide)
    refine pv_aload_n d_L_law_478 rfl rfl ?_
    refine pv_aload_n d_L_law_479 rfl rfl ?_
    refine pv_iload_n d_L_law_480 rfl rfl ?_
    refine pv_iconst d_L_law_481 (nI 1) (by decide) ?_
    first | refine pv_iaddN d_L_law_482 ?_ | refine pv_iadd d_L_law_482 ?_
    refine pv_sld d_L_law_483 hEx (by omega) (by omega) ?_
    rw [hx]
    refine pv_callV1I d_L_law_484 (k_Y_reach rfl hn h0.2.1 ?_) sb_Y_reach wm_L_72 (gy_Y rfl) rfl ⟨wi_Y_reach, we_Y_reach⟩ (by decide) (by decide) (Nat.le_of_ble_eq_true rfl) (by decide) (by decide)
    first | refine pv_icmpN_eq 617 (by decide) d_L_law_487 (by first | assumption | omega | exact Nat.lt_of_le_of_lt Nat.and_le_right (by decide)) (by first | assumption | omega | exact Nat.lt_of_le_of_lt Nat.and_le_right (by decide)) (fun h487 => ?_) (fun h487 => ?_) | refine pv_icmp_eq 617 (by decide) d_L_law_487 (fun h487 => ?_) (fun h487 => ?_)
    · exact step _ _ (h0.2.2.2.2.1)
    · exact absurd (hN.2.2.2.2.2.2.2.2.2.1.2.2.2.2.2.1) h487
set_option maxRecDepth 100000 in
set_option maxHeartbeats 2000000 in
theorem law_line (hS : SimOK Sim) (hL : Ln ≤ 1536) (c : Nat) (σ τ : Nat → Nat → Nat) (hc : c < 512) (hi : 3 * c + 3 ≤ Ln) (hs : Sim c σ τ) (step : ∀ σ1 τ1, Sim (c + 1) σ1 τ1 → pv_V l D ty base b code 4 R_L ret nm room_1 (Exl base b Ln xs) (Qfl b) 61 6344 617 [some (.ref 0), some (.ref (0 + 1)), some (.ref (40 + 1)), some (.int (nI (3 * c)))] [] (memX σ1 ++ memY τ1)) : pv_V l D ty base b code 4 R_L ret nm room_1 (Exl base b Ln xs) (Qfl b) 61 6344 492 [some (.ref 0), some (.ref (0 + 1)), some (.ref (40 + 1)), some (.int (nI (3 * c)))] [] (memX σ ++ memY τ) := by
  have hEx : ∀ s, Exl base b Ln xs s → va_X b Ln xs s s.heap ∧ b < base := fun s h => h.2
  obtain ⟨h0, hn0⟩ := hS c σ τ hc hs
  rcases ix5 (xs (3 * c + 1)) with hx | ⟨n, hn, hx⟩
  · refine pv_aload_n d_L_law_492 rfl rfl ?_
    refine pv_aload_n d_L_law_493 rfl rfl ?_
    refine pv_iload_n d_L_law_494 rfl rfl ?_
    refine pv_iconst d_L_law_495 (nI 1) (by decide) ?_
    first | refine pv_iaddN d_L_law_496 ?_ | refine pv_iadd d_L_law_496 ?_
    refine pv_sld d_L_law_497 hEx (by omega) (by omega) ?_
    refine pv_callV1I d_L_law_498 (k_O_line_no hx ?_) sb_O_line wm_L_73 gx_O rfl ⟨wi_O_line, we_O_line⟩ (by decide) (by decide) (Nat.le_of_ble_eq_true rfl) (by decide) (by decide)
    refine pv_aload_n d_L_law_501 rfl rfl ?_
    refine pv_aload_n d_L_law_502 rfl rfl ?_
    refine pv_iload_n d_L_law_503 rfl rfl ?_
    refine pv_iconst d_L_law_504 (nI 1) (by decide) ?_
    first | refine pv_iaddN d_L_law_505 ?_ | refine pv_iadd d_L_law_505 ?_
    refine pv_sld d_L_law_506 hEx (by omega) (by omega) ?_
    refine pv_callV1I d_L_law_507 (k_Y_line_no rfl (five_four hx) ?_) sb_Y_line wm_L_76 (gy_Y rfl) rfl ⟨wi_Y_line, we_Y_line⟩ (by decide) (by decide) (Nat.le_of_ble_eq_true rfl) (by decide) (by decide)
    first | refine pv_icmpN_eq 617 (by decide) d_L_law_510 (by first | assumption | omega | exact Nat.lt_of_le_of_lt Nat.and_le_right (by decide)) (by first | assumption | omega | exact Nat.lt_of_le_of_lt Nat.and_le_right (by decide)) (fun h510 => ?_) (fun h510 => ?_) | refine pv_icmp_eq 617 (by decide) d_L_law_510 (fun h510 => ?_) (fun h510 => ?_)
    · exact step _ _ (h0.2.2.2.2.1)
    · exact absurd (rfl) h510
  · have hN := hn0 n hn
    refine pv_aload_n d_L_law_492 rfl rfl ?_
    refine pv_aload_n d_L_law_493 rfl rfl ?_
    refine pv_iload_n d_L_law_494 rfl rfl ?_
    refine pv_iconst d_L_law_495 (nI 1) (by decide) ?_
    first | refine pv_iaddN d_L_law_496 ?_ | refine pv_iadd d_L_law_496 ?_
    refine pv_sld d_L_law_497 hEx (by omega) (by omega) ?_
    rw [hx]
    refine pv_callV1I d_L_law_498 (k_O_line hn h0.1 ?_) sb_O_line wm_L_73 gx_O rfl ⟨wi_O_line, we_O_line⟩ (by decide) (by decide) (Nat.le_of_ble_eq_true rfl) (by decide) (by decide)
    refine pv_aload_n d_L_law_501 rfl rfl ?_
    refine pv_aload_n d_L_law_502 rfl rfl ?_
    refine pv_iload_n d_L_law_503 rfl rfl ?_
    refine pv_iconst d_L_law_504 (nI 1) (by decide) ?_
    first | refine pv_iaddN d_L_law_505 ?_ | refine pv_iadd d_L_law_505 ?_
    refine pv_sld d_L_law_506 hEx (by omega) (by omega) ?_
    rw [hx]
    refine pv_callV1I d_L_law_507 (k_Y_line rfl hn h0.2.1 ?_) sb_Y_line wm_L_76 (gy_Y rfl) rfl ⟨wi_Y_line, we_Y_line⟩ (by decide) (by decide) (Nat.le_of_ble_eq_true rfl) (by decide) (by decide)
    first | refine pv_icmpN_eq 617 (by decide) d_L_law_510 (by first | assumption | omega | exact Nat.lt_of_le_of_lt Nat.and_le_right (by decide)) (by first | assumption | omega | exact Nat.lt_of_le_of_lt Nat.and_le_right (by decide)) (fun h510 => ?_) (fun h510 => ?_) | refine pv_icmp_eq 617 (by decide) d_L_law_510 (fun h510 => ?_) (fun h510 => ?_)
    · exact step _ _ (h0.2.2.2.2.1)
    · exact absurd (hN.2.2.2.2.2.2.2.2.2.1.2.2.2.2.2.2.1) h510
set_option maxRecDepth 100000 in
set_option maxHeartbeats 2000000 in
theorem law_waiting (hS : SimOK Sim) (hL : Ln ≤ 1536) (c : Nat) (σ τ : Nat → Nat → Nat) (hc : c < 512) (hi : 3 * c + 3 ≤ Ln) (hs : Sim c σ τ) (step : ∀ σ1 τ1, Sim (c + 1) σ1 τ1 → pv_V l D ty base b code 4 R_L ret nm room_1 (Exl base b Ln xs) (Qfl b) 61 6344 617 [some (.ref 0), some (.ref (0 + 1)), some (.ref (40 + 1)), some (.int (nI (3 * c)))] [] (memX σ1 ++ memY τ1)) : pv_V l D ty base b code 4 R_L ret nm room_1 (Exl base b Ln xs) (Qfl b) 61 6344 515 [some (.ref 0), some (.ref (0 + 1)), some (.ref (40 + 1)), some (.int (nI (3 * c)))] [] (memX σ ++ memY τ) := by
  have hEx : ∀ s, Exl base b Ln xs s → va_X b Ln xs s s.heap ∧ b < base := fun s h => h.2
  obtain ⟨h0, hn0⟩ := hS c σ τ hc hs
  rcases ix5 (xs (3 * c + 1)) with hx | ⟨n, hn, hx⟩
  · refine pv_aload_n d_L_law_515 rfl rfl ?_
    refine pv_aload_n d_L_law_516 rfl rfl ?_
    refine pv_iload_n d_L_law_517 rfl rfl ?_
    refine pv_iconst d_L_law_518 (nI 1) (by decide) ?_
    first | refine pv_iaddN d_L_law_519 ?_ | refine pv_iadd d_L_law_519 ?_
    refine pv_sld d_L_law_520 hEx (by omega) (by omega) ?_
    refine pv_callV1I d_L_law_521 (k_O_waiting_no hx ?_) sb_O_waiting wm_L_77 gx_O rfl ⟨wi_O_waiting, we_O_waiting⟩ (by decide) (by decide) (Nat.le_of_ble_eq_true rfl) (by decide) (by decide)
    refine pv_aload_n d_L_law_524 rfl rfl ?_
    refine pv_aload_n d_L_law_525 rfl rfl ?_
    refine pv_iload_n d_L_law_526 rfl rfl ?_
    refine pv_iconst d_L_law_527 (nI 1) (by decide) ?_
    first | refine pv_iaddN d_L_law_528 ?_ | refine pv_iadd d_L_law_528 ?_
    refine pv_sld d_L_law_529 hEx (by omega) (by omega) ?_
    refine pv_callV1I d_L_law_530 (k_Y_waiting_no rfl (five_four hx) ?_) sb_Y_waiting wm_L_80 (gy_Y rfl) rfl ⟨wi_Y_waiting, we_Y_waiting⟩ (by decide) (by decide) (Nat.le_of_ble_eq_true rfl) (by decide) (by decide)
    first | refine pv_icmpN_eq 617 (by decide) d_L_law_533 (by first | assumption | omega | exact Nat.lt_of_le_of_lt Nat.and_le_right (by decide)) (by first | assumption | omega | exact Nat.lt_of_le_of_lt Nat.and_le_right (by decide)) (fun h533 => ?_) (fun h533 => ?_) | refine pv_icmp_eq 617 (by decide) d_L_law_533 (fun h533 => ?_) (fun h533 => ?_)
    · exact step _ _ (h0.2.2.2.2.1)
    · exact absurd (rfl) h533
  · have hN := hn0 n hn
    refine pv_aload_n d_L_law_515 rfl rfl ?_
    refine pv_aload_n d_L_law_516 rfl rfl ?_
    refine pv_iload_n d_L_law_517 rfl rfl ?_
    refine pv_iconst d_L_law_518 (nI 1) (by decide) ?_
    first | refine pv_iaddN d_L_law_519 ?_ | refine pv_iadd d_L_law_519 ?_
    refine pv_sld d_L_law_520 hEx (by omega) (by omega) ?_
    rw [hx]
    refine pv_callV1I d_L_law_521 (k_O_waiting hn h0.1 ?_) sb_O_waiting wm_L_77 gx_O rfl ⟨wi_O_waiting, we_O_waiting⟩ (by decide) (by decide) (Nat.le_of_ble_eq_true rfl) (by decide) (by decide)
    refine pv_aload_n d_L_law_524 rfl rfl ?_
    refine pv_aload_n d_L_law_525 rfl rfl ?_
    refine pv_iload_n d_L_law_526 rfl rfl ?_
    refine pv_iconst d_L_law_527 (nI 1) (by decide) ?_
    first | refine pv_iaddN d_L_law_528 ?_ | refine pv_iadd d_L_law_528 ?_
    refine pv_sld d_L_law_529 hEx (by omega) (by omega) ?_
    rw [hx]
    refine pv_callV1I d_L_law_530 (k_Y_waiting rfl hn h0.2.1 ?_) sb_Y_waiting wm_L_80 (gy_Y rfl) rfl ⟨wi_Y_waiting, we_Y_waiting⟩ (by decide) (by decide) (Nat.le_of_ble_eq_true rfl) (by decide) (by decide)
    first | refine pv_icmpN_eq 617 (by decide) d_L_law_533 (by first | assumption | omega | exact Nat.lt_of_le_of_lt Nat.and_le_right (by decide)) (by first | assumption | omega | exact Nat.lt_of_le_of_lt Nat.and_le_right (by decide)) (fun h533 => ?_) (fun h533 => ?_) | refine pv_icmp_eq 617 (by decide) d_L_law_533 (fun h533 => ?_) (fun h533 => ?_)
    · exact step _ _ (h0.2.2.2.2.1)
    · exact absurd (hN.2.2.2.2.2.2.2.2.2.1.2.2.2.2.2.2.2) h533
set_option maxRecDepth 100000 in
set_option maxHeartbeats 2000000 in
theorem law_delivered (hS : SimOK Sim) (hL : Ln ≤ 1536) (c : Nat) (σ τ : Nat → Nat → Nat) (hc : c < 512) (hi : 3 * c + 3 ≤ Ln) (hs : Sim c σ τ) (step : ∀ σ1 τ1, Sim (c + 1) σ1 τ1 → pv_V l D ty base b code 4 R_L ret nm room_1 (Exl base b Ln xs) (Qfl b) 61 6344 617 [some (.ref 0), some (.ref (0 + 1)), some (.ref (40 + 1)), some (.int (nI (3 * c)))] [] (memX σ1 ++ memY τ1)) : pv_V l D ty base b code 4 R_L ret nm room_1 (Exl base b Ln xs) (Qfl b) 61 6344 538 [some (.ref 0), some (.ref (0 + 1)), some (.ref (40 + 1)), some (.int (nI (3 * c)))] [] (memX σ ++ memY τ) := by
  have hEx : ∀ s, Exl base b Ln xs s → va_X b Ln xs s s.heap ∧ b < base := fun s h => h.2
  obtain ⟨h0, hn0⟩ := hS c σ τ hc hs
  rcases ix5 (xs (3 * c + 1)) with hx | ⟨n, hn, hx⟩
  · refine pv_aload_n d_L_law_538 rfl rfl ?_
    refine pv_aload_n d_L_law_539 rfl rfl ?_
    refine pv_iload_n d_L_law_540 rfl rfl ?_
    refine pv_iconst d_L_law_541 (nI 1) (by decide) ?_
    first | refine pv_iaddN d_L_law_542 ?_ | refine pv_iadd d_L_law_542 ?_
    refine pv_sld d_L_law_543 hEx (by omega) (by omega) ?_
    refine pv_callV1I d_L_law_544 (k_O_delivered_no hx ?_) sb_O_delivered wm_L_81 gx_O rfl ⟨wi_O_delivered, we_O_delivered⟩ (by decide) (by decide) (Nat.le_of_ble_eq_true rfl) (by decide) (by decide)
    refine pv_aload_n d_L_law_547 rfl rfl ?_
    refine pv_aload_n d_L_law_548 rfl rfl ?_
    refine pv_iload_n d_L_law_549 rfl rfl ?_
    refine pv_iconst d_L_law_550 (nI 1) (by decide) ?_
    first | refine pv_iaddN d_L_law_551 ?_ | refine pv_iadd d_L_law_551 ?_
    refine pv_sld d_L_law_552 hEx (by omega) (by omega) ?_
    refine pv_callV1I d_L_law_553 (k_Y_delivered_no rfl (five_four hx) ?_) sb_Y_delivered wm_L_84 (gy_Y rfl) rfl ⟨wi_Y_delivered, we_Y_delivered⟩ (by decide) (by decide) (Nat.le_of_ble_eq_true rfl) (by decide) (by decide)
    first | refine pv_icmpN_eq 617 (by decide) d_L_law_556 (by first | assumption | omega | exact Nat.lt_of_le_of_lt Nat.and_le_right (by decide)) (by first | assumption | omega | exact Nat.lt_of_le_of_lt Nat.and_le_right (by decide)) (fun h556 => ?_) (fun h556 => ?_) | refine pv_icmp_eq 617 (by decide) d_L_law_556 (fun h556 => ?_) (fun h556 => ?_)
    · exact step _ _ (h0.2.2.2.2.1)
    · exact absurd (rfl) h556
  · have hN := hn0 n hn
    refine pv_aload_n d_L_law_538 rfl rfl ?_
    refine pv_aload_n d_L_law_539 rfl rfl ?_
    refine pv_iload_n d_L_law_540 rfl rfl ?_
    refine pv_iconst d_L_law_541 (nI 1) (by decide) ?_
    first | refine pv_iaddN d_L_law_542 ?_ | refine pv_iadd d_L_law_542 ?_
    refine pv_sld d_L_law_543 hEx (by omega) (by omega) ?_
    rw [hx]
    refine pv_callV1I d_L_law_544 (k_O_delivered hn ?_) sb_O_delivered wm_L_81 gx_O rfl ⟨wi_O_delivered, we_O_delivered⟩ (by decide) (by decide) (Nat.le_of_ble_eq_true rfl) (by decide) (by decide)
    refine pv_aload_n d_L_law_547 rfl rfl ?_
    refine pv_aload_n d_L_law_548 rfl rfl ?_
    refine pv_iload_n d_L_law_549 rfl rfl ?_
    refine pv_iconst d_L_law_550 (nI 1) (by decide) ?_
    first | refine pv_iaddN d_L_law_551 ?_ | refine pv_iadd d_L_law_551 ?_
    refine pv_sld d_L_law_552 hEx (by omega) (by omega) ?_
    rw [hx]
    refine pv_callV1I d_L_law_553 (k_Y_delivered rfl hn ?_) sb_Y_delivered wm_L_84 (gy_Y rfl) rfl ⟨wi_Y_delivered, we_Y_delivered⟩ (by decide) (by decide) (Nat.le_of_ble_eq_true rfl) (by decide) (by decide)
    first | refine pv_icmpN_eq 617 (by decide) d_L_law_556 (by first | assumption | omega | exact Nat.lt_of_le_of_lt Nat.and_le_right (by decide)) (by first | assumption | omega | exact Nat.lt_of_le_of_lt Nat.and_le_right (by decide)) (fun h556 => ?_) (fun h556 => ?_) | refine pv_icmp_eq 617 (by decide) d_L_law_556 (fun h556 => ?_) (fun h556 => ?_)
    · exact step _ _ (h0.2.2.2.2.1)
    · exact absurd (congrArg nI hN.2.2.2.2.2.2.2.2.2.2.1) h556
set_option maxRecDepth 100000 in
set_option maxHeartbeats 2000000 in
theorem law_log (hS : SimOK Sim) (hL : Ln ≤ 1536) (c : Nat) (σ τ : Nat → Nat → Nat) (hc : c < 512) (hi : 3 * c + 3 ≤ Ln) (hs : Sim c σ τ) (step : ∀ σ1 τ1, Sim (c + 1) σ1 τ1 → pv_V l D ty base b code 4 R_L ret nm room_1 (Exl base b Ln xs) (Qfl b) 61 6344 617 [some (.ref 0), some (.ref (0 + 1)), some (.ref (40 + 1)), some (.int (nI (3 * c)))] [] (memX σ1 ++ memY τ1)) : pv_V l D ty base b code 4 R_L ret nm room_1 (Exl base b Ln xs) (Qfl b) 61 6344 561 [some (.ref 0), some (.ref (0 + 1)), some (.ref (40 + 1)), some (.int (nI (3 * c)))] [] (memX σ ++ memY τ) := by
  have hEx : ∀ s, Exl base b Ln xs s → va_X b Ln xs s s.heap ∧ b < base := fun s h => h.2
  obtain ⟨h0, hn0⟩ := hS c σ τ hc hs
  rcases ix5 (xs (3 * c + 1)) with hx | ⟨n, hn, hx⟩
  · refine pv_aload_n d_L_law_561 rfl rfl ?_
    refine pv_aload_n d_L_law_562 rfl rfl ?_
    refine pv_iload_n d_L_law_563 rfl rfl ?_
    refine pv_iconst d_L_law_564 (nI 1) (by decide) ?_
    first | refine pv_iaddN d_L_law_565 ?_ | refine pv_iadd d_L_law_565 ?_
    refine pv_sld d_L_law_566 hEx (by omega) (by omega) ?_
    refine pv_aload_n d_L_law_567 rfl rfl ?_
    refine pv_iload_n d_L_law_568 rfl rfl ?_
    refine pv_iconst d_L_law_569 (nI 2) (by decide) ?_
    first | refine pv_iaddN d_L_law_570 ?_ | refine pv_iadd d_L_law_570 ?_
    refine pv_sld d_L_law_571 hEx (by omega) (by omega) ?_
    refine pv_callV2I d_L_law_572 (k_O_log_no hx ?_) sb_O_log wm_L_85 gx_O rfl ⟨wi_O_log, we_O_log⟩ (by decide) (by decide) (Nat.le_of_ble_eq_true rfl) (by decide) (by decide)
    refine pv_aload_n d_L_law_575 rfl rfl ?_
    refine pv_aload_n d_L_law_576 rfl rfl ?_
    refine pv_iload_n d_L_law_577 rfl rfl ?_
    refine pv_iconst d_L_law_578 (nI 1) (by decide) ?_
    first | refine pv_iaddN d_L_law_579 ?_ | refine pv_iadd d_L_law_579 ?_
    refine pv_sld d_L_law_580 hEx (by omega) (by omega) ?_
    refine pv_aload_n d_L_law_581 rfl rfl ?_
    refine pv_iload_n d_L_law_582 rfl rfl ?_
    refine pv_iconst d_L_law_583 (nI 2) (by decide) ?_
    first | refine pv_iaddN d_L_law_584 ?_ | refine pv_iadd d_L_law_584 ?_
    refine pv_sld d_L_law_585 hEx (by omega) (by omega) ?_
    refine pv_callV2I d_L_law_586 (k_Y_log_no rfl (five_four hx) ?_) sb_Y_log wm_L_89 (gy_Y rfl) rfl ⟨wi_Y_log, we_Y_log⟩ (by decide) (by decide) (Nat.le_of_ble_eq_true rfl) (by decide) (by decide)
    first | refine pv_icmpN_eq 617 (by decide) d_L_law_589 (by first | assumption | omega | exact Nat.lt_of_le_of_lt Nat.and_le_right (by decide)) (by first | assumption | omega | exact Nat.lt_of_le_of_lt Nat.and_le_right (by decide)) (fun h589 => ?_) (fun h589 => ?_) | refine pv_icmp_eq 617 (by decide) d_L_law_589 (fun h589 => ?_) (fun h589 => ?_)
    · exact step _ _ (h0.2.2.2.2.1)
    · exact absurd (rfl) h589
  · have hN := hn0 n hn
    rcases pk_ix (xs (3 * c + 2)) (n := σ 4 n) (by have := h0.1 4 n; show _ < 2 ^ 31; exact Nat.lt_of_lt_of_le this (by decide)) with hy | hy | ⟨j, hj, hy⟩
    · refine pv_aload_n d_L_law_561 rfl rfl ?_
      refine pv_aload_n d_L_law_562 rfl rfl ?_
      refine pv_iload_n d_L_law_563 rfl rfl ?_
      refine pv_iconst d_L_law_564 (nI 1) (by decide) ?_
      first | refine pv_iaddN d_L_law_565 ?_ | refine pv_iadd d_L_law_565 ?_
      refine pv_sld d_L_law_566 hEx (by omega) (by omega) ?_
      rw [hx]
      refine pv_aload_n d_L_law_567 rfl rfl ?_
      refine pv_iload_n d_L_law_568 rfl rfl ?_
      refine pv_iconst d_L_law_569 (nI 2) (by decide) ?_
      first | refine pv_iaddN d_L_law_570 ?_ | refine pv_iadd d_L_law_570 ?_
      refine pv_sld d_L_law_571 hEx (by omega) (by omega) ?_
      refine pv_callV2I d_L_law_572 (k_O_log_out hn (Or.inl hy) ?_) sb_O_log wm_L_85 gx_O rfl ⟨wi_O_log, we_O_log⟩ (by decide) (by decide) (Nat.le_of_ble_eq_true rfl) (by decide) (by decide)
      refine pv_aload_n d_L_law_575 rfl rfl ?_
      refine pv_aload_n d_L_law_576 rfl rfl ?_
      refine pv_iload_n d_L_law_577 rfl rfl ?_
      refine pv_iconst d_L_law_578 (nI 1) (by decide) ?_
      first | refine pv_iaddN d_L_law_579 ?_ | refine pv_iadd d_L_law_579 ?_
      refine pv_sld d_L_law_580 hEx (by omega) (by omega) ?_
      rw [hx]
      refine pv_aload_n d_L_law_581 rfl rfl ?_
      refine pv_iload_n d_L_law_582 rfl rfl ?_
      refine pv_iconst d_L_law_583 (nI 2) (by decide) ?_
      first | refine pv_iaddN d_L_law_584 ?_ | refine pv_iadd d_L_law_584 ?_
      refine pv_sld d_L_law_585 hEx (by omega) (by omega) ?_
      refine pv_callV2I d_L_law_586 (k_Y_log_out rfl hn (Or.inl hy) ?_) sb_Y_log wm_L_89 (gy_Y rfl) rfl ⟨wi_Y_log, we_Y_log⟩ (by decide) (by decide) (Nat.le_of_ble_eq_true rfl) (by decide) (by decide)
      first | refine pv_icmpN_eq 617 (by decide) d_L_law_589 (by first | assumption | omega | exact Nat.lt_of_le_of_lt Nat.and_le_right (by decide)) (by first | assumption | omega | exact Nat.lt_of_le_of_lt Nat.and_le_right (by decide)) (fun h589 => ?_) (fun h589 => ?_) | refine pv_icmp_eq 617 (by decide) d_L_law_589 (fun h589 => ?_) (fun h589 => ?_)
      · exact step _ _ (h0.2.2.2.2.1)
      · exact absurd (rfl) h589
    · refine pv_aload_n d_L_law_561 rfl rfl ?_
      refine pv_aload_n d_L_law_562 rfl rfl ?_
      refine pv_iload_n d_L_law_563 rfl rfl ?_
      refine pv_iconst d_L_law_564 (nI 1) (by decide) ?_
      first | refine pv_iaddN d_L_law_565 ?_ | refine pv_iadd d_L_law_565 ?_
      refine pv_sld d_L_law_566 hEx (by omega) (by omega) ?_
      rw [hx]
      refine pv_aload_n d_L_law_567 rfl rfl ?_
      refine pv_iload_n d_L_law_568 rfl rfl ?_
      refine pv_iconst d_L_law_569 (nI 2) (by decide) ?_
      first | refine pv_iaddN d_L_law_570 ?_ | refine pv_iadd d_L_law_570 ?_
      refine pv_sld d_L_law_571 hEx (by omega) (by omega) ?_
      refine pv_callV2I d_L_law_572 (k_O_log_out hn (Or.inr hy) ?_) sb_O_log wm_L_85 gx_O rfl ⟨wi_O_log, we_O_log⟩ (by decide) (by decide) (Nat.le_of_ble_eq_true rfl) (by decide) (by decide)
      refine pv_aload_n d_L_law_575 rfl rfl ?_
      refine pv_aload_n d_L_law_576 rfl rfl ?_
      refine pv_iload_n d_L_law_577 rfl rfl ?_
      refine pv_iconst d_L_law_578 (nI 1) (by decide) ?_
      first | refine pv_iaddN d_L_law_579 ?_ | refine pv_iadd d_L_law_579 ?_
      refine pv_sld d_L_law_580 hEx (by omega) (by omega) ?_
      rw [hx]
      refine pv_aload_n d_L_law_581 rfl rfl ?_
      refine pv_iload_n d_L_law_582 rfl rfl ?_
      refine pv_iconst d_L_law_583 (nI 2) (by decide) ?_
      first | refine pv_iaddN d_L_law_584 ?_ | refine pv_iadd d_L_law_584 ?_
      refine pv_sld d_L_law_585 hEx (by omega) (by omega) ?_
      refine pv_callV2I d_L_law_586 (k_Y_log_out rfl hn (Or.inr (by rw [← hN.2.2.2.2.2.2.2.2.2.2.1]; exact hy)) ?_) sb_Y_log wm_L_89 (gy_Y rfl) rfl ⟨wi_Y_log, we_Y_log⟩ (by decide) (by decide) (Nat.le_of_ble_eq_true rfl) (by decide) (by decide)
      first | refine pv_icmpN_eq 617 (by decide) d_L_law_589 (by first | assumption | omega | exact Nat.lt_of_le_of_lt Nat.and_le_right (by decide)) (by first | assumption | omega | exact Nat.lt_of_le_of_lt Nat.and_le_right (by decide)) (fun h589 => ?_) (fun h589 => ?_) | refine pv_icmp_eq 617 (by decide) d_L_law_589 (fun h589 => ?_) (fun h589 => ?_)
      · exact step _ _ (h0.2.2.2.2.1)
      · exact absurd (rfl) h589
    · refine pv_aload_n d_L_law_561 rfl rfl ?_
      refine pv_aload_n d_L_law_562 rfl rfl ?_
      refine pv_iload_n d_L_law_563 rfl rfl ?_
      refine pv_iconst d_L_law_564 (nI 1) (by decide) ?_
      first | refine pv_iaddN d_L_law_565 ?_ | refine pv_iadd d_L_law_565 ?_
      refine pv_sld d_L_law_566 hEx (by omega) (by omega) ?_
      rw [hx]
      refine pv_aload_n d_L_law_567 rfl rfl ?_
      refine pv_iload_n d_L_law_568 rfl rfl ?_
      refine pv_iconst d_L_law_569 (nI 2) (by decide) ?_
      first | refine pv_iaddN d_L_law_570 ?_ | refine pv_iadd d_L_law_570 ?_
      refine pv_sld d_L_law_571 hEx (by omega) (by omega) ?_
      rw [hy]
      refine pv_callV2I d_L_law_572 (k_O_log hn h0.1 hj ?_) sb_O_log wm_L_85 gx_O rfl ⟨wi_O_log, we_O_log⟩ (by decide) (by decide) (Nat.le_of_ble_eq_true rfl) (by decide) (by decide)
      refine pv_aload_n d_L_law_575 rfl rfl ?_
      refine pv_aload_n d_L_law_576 rfl rfl ?_
      refine pv_iload_n d_L_law_577 rfl rfl ?_
      refine pv_iconst d_L_law_578 (nI 1) (by decide) ?_
      first | refine pv_iaddN d_L_law_579 ?_ | refine pv_iadd d_L_law_579 ?_
      refine pv_sld d_L_law_580 hEx (by omega) (by omega) ?_
      rw [hx]
      refine pv_aload_n d_L_law_581 rfl rfl ?_
      refine pv_iload_n d_L_law_582 rfl rfl ?_
      refine pv_iconst d_L_law_583 (nI 2) (by decide) ?_
      first | refine pv_iaddN d_L_law_584 ?_ | refine pv_iadd d_L_law_584 ?_
      refine pv_sld d_L_law_585 hEx (by omega) (by omega) ?_
      rw [hy]
      refine pv_callV2I d_L_law_586 (k_Y_log rfl hn h0.2.1 (by rw [← hN.2.2.2.2.2.2.2.2.2.2.1]; exact hj) ?_) sb_Y_log wm_L_89 (gy_Y rfl) rfl ⟨wi_Y_log, we_Y_log⟩ (by decide) (by decide) (Nat.le_of_ble_eq_true rfl) (by decide) (by decide)
      first | refine pv_icmpN_eq 617 (by decide) d_L_law_589 (by first | assumption | omega | exact Nat.lt_of_le_of_lt Nat.and_le_right (by decide)) (by first | assumption | omega | exact Nat.lt_of_le_of_lt Nat.and_le_right (by decide)) (fun h589 => ?_) (fun h589 => ?_) | refine pv_icmp_eq 617 (by decide) d_L_law_589 (fun h589 => ?_) (fun h589 => ?_)
      · exact step _ _ (h0.2.2.2.2.1)
      · exact absurd (congrArg nI (hN.2.2.2.2.2.2.2.2.2.2.2 j hj)) h589
set_option maxRecDepth 100000 in
set_option maxHeartbeats 2000000 in
theorem law_stamp (hS : SimOK Sim) (hL : Ln ≤ 1536) (c : Nat) (σ τ : Nat → Nat → Nat) (hc : c < 512) (hi : 3 * c + 3 ≤ Ln) (hs : Sim c σ τ) (step : ∀ σ1 τ1, Sim (c + 1) σ1 τ1 → pv_V l D ty base b code 4 R_L ret nm room_1 (Exl base b Ln xs) (Qfl b) 61 6344 617 [some (.ref 0), some (.ref (0 + 1)), some (.ref (40 + 1)), some (.int (nI (3 * c)))] [] (memX σ1 ++ memY τ1)) : pv_V l D ty base b code 4 R_L ret nm room_1 (Exl base b Ln xs) (Qfl b) 61 6344 594 [some (.ref 0), some (.ref (0 + 1)), some (.ref (40 + 1)), some (.int (nI (3 * c)))] [] (memX σ ++ memY τ) := by
  have hEx : ∀ s, Exl base b Ln xs s → va_X b Ln xs s s.heap ∧ b < base := fun s h => h.2
  obtain ⟨h0, hn0⟩ := hS c σ τ hc hs
  rcases pk_ix (xs (3 * c + 1)) (n := σ 15 0 + 1) (by have h15 : σ 15 0 < 49 := h0.1 15 0; omega) with hy | hy | ⟨j, hj, hy⟩
  · refine pv_aload_n d_L_law_594 rfl rfl ?_
    refine pv_aload_n d_L_law_595 rfl rfl ?_
    refine pv_iload_n d_L_law_596 rfl rfl ?_
    refine pv_iconst d_L_law_597 (nI 1) (by decide) ?_
    first | refine pv_iaddN d_L_law_598 ?_ | refine pv_iadd d_L_law_598 ?_
    refine pv_sld d_L_law_599 hEx (by omega) (by omega) ?_
    refine pv_callV1I d_L_law_600 (k_O_stamp_out h0.1 (Or.inl (neg_lt hy)) ?_) sb_O_stamp wm_L_90 gx_O rfl ⟨wi_O_stamp, we_O_stamp⟩ (by decide) (by decide) (Nat.le_of_ble_eq_true rfl) (by decide) (by decide)
    refine pv_aload_n d_L_law_603 rfl rfl ?_
    refine pv_aload_n d_L_law_604 rfl rfl ?_
    refine pv_iload_n d_L_law_605 rfl rfl ?_
    refine pv_iconst d_L_law_606 (nI 1) (by decide) ?_
    first | refine pv_iaddN d_L_law_607 ?_ | refine pv_iadd d_L_law_607 ?_
    refine pv_sld d_L_law_608 hEx (by omega) (by omega) ?_
    refine pv_callV1I d_L_law_609 (k_Y_stamp_out rfl h0.2.1 (Or.inl (neg_lt hy)) ?_) sb_Y_stamp wm_L_93 (gy_Y rfl) rfl ⟨wi_Y_stamp, we_Y_stamp⟩ (by decide) (by decide) (Nat.le_of_ble_eq_true rfl) (by decide) (by decide)
    first | refine pv_icmpN_eq 617 (by decide) d_L_law_612 (by first | assumption | omega | exact Nat.lt_of_le_of_lt Nat.and_le_right (by decide)) (by first | assumption | omega | exact Nat.lt_of_le_of_lt Nat.and_le_right (by decide)) (fun h612 => ?_) (fun h612 => ?_) | refine pv_icmp_eq 617 (by decide) d_L_law_612 (fun h612 => ?_) (fun h612 => ?_)
    · exact step _ _ (h0.2.2.2.2.1)
    · exact absurd (rfl) h612
  · refine pv_aload_n d_L_law_594 rfl rfl ?_
    refine pv_aload_n d_L_law_595 rfl rfl ?_
    refine pv_iload_n d_L_law_596 rfl rfl ?_
    refine pv_iconst d_L_law_597 (nI 1) (by decide) ?_
    first | refine pv_iaddN d_L_law_598 ?_ | refine pv_iadd d_L_law_598 ?_
    refine pv_sld d_L_law_599 hEx (by omega) (by omega) ?_
    refine pv_callV1I d_L_law_600 (k_O_stamp_out h0.1 (Or.inr (le_lt (by have h15 : σ 15 0 < 49 := h0.1 15 0; omega) hy)) ?_) sb_O_stamp wm_L_90 gx_O rfl ⟨wi_O_stamp, we_O_stamp⟩ (by decide) (by decide) (Nat.le_of_ble_eq_true rfl) (by decide) (by decide)
    refine pv_aload_n d_L_law_603 rfl rfl ?_
    refine pv_aload_n d_L_law_604 rfl rfl ?_
    refine pv_iload_n d_L_law_605 rfl rfl ?_
    refine pv_iconst d_L_law_606 (nI 1) (by decide) ?_
    first | refine pv_iaddN d_L_law_607 ?_ | refine pv_iadd d_L_law_607 ?_
    refine pv_sld d_L_law_608 hEx (by omega) (by omega) ?_
    refine pv_callV1I d_L_law_609 (k_Y_stamp_out rfl h0.2.1 (Or.inr (by rw [← h0.2.2.2.2.2.1]; exact le_lt (by have h15 : σ 15 0 < 49 := h0.1 15 0; omega) hy)) ?_) sb_Y_stamp wm_L_93 (gy_Y rfl) rfl ⟨wi_Y_stamp, we_Y_stamp⟩ (by decide) (by decide) (Nat.le_of_ble_eq_true rfl) (by decide) (by decide)
    first | refine pv_icmpN_eq 617 (by decide) d_L_law_612 (by first | assumption | omega | exact Nat.lt_of_le_of_lt Nat.and_le_right (by decide)) (by first | assumption | omega | exact Nat.lt_of_le_of_lt Nat.and_le_right (by decide)) (fun h612 => ?_) (fun h612 => ?_) | refine pv_icmp_eq 617 (by decide) d_L_law_612 (fun h612 => ?_) (fun h612 => ?_)
    · exact step _ _ (h0.2.2.2.2.1)
    · exact absurd (rfl) h612
  · by_cases hj0 : j = 0
    · subst hj0
      refine pv_aload_n d_L_law_594 rfl rfl ?_
      refine pv_aload_n d_L_law_595 rfl rfl ?_
      refine pv_iload_n d_L_law_596 rfl rfl ?_
      refine pv_iconst d_L_law_597 (nI 1) (by decide) ?_
      first | refine pv_iaddN d_L_law_598 ?_ | refine pv_iadd d_L_law_598 ?_
      refine pv_sld d_L_law_599 hEx (by omega) (by omega) ?_
      rw [hy]
      refine pv_callV1I d_L_law_600 (k_O_stamp_out h0.1 (Or.inl (by decide)) ?_) sb_O_stamp wm_L_90 gx_O rfl ⟨wi_O_stamp, we_O_stamp⟩ (by decide) (by decide) (Nat.le_of_ble_eq_true rfl) (by decide) (by decide)
      refine pv_aload_n d_L_law_603 rfl rfl ?_
      refine pv_aload_n d_L_law_604 rfl rfl ?_
      refine pv_iload_n d_L_law_605 rfl rfl ?_
      refine pv_iconst d_L_law_606 (nI 1) (by decide) ?_
      first | refine pv_iaddN d_L_law_607 ?_ | refine pv_iadd d_L_law_607 ?_
      refine pv_sld d_L_law_608 hEx (by omega) (by omega) ?_
      rw [hy]
      refine pv_callV1I d_L_law_609 (k_Y_stamp_out rfl h0.2.1 (Or.inl (by decide)) ?_) sb_Y_stamp wm_L_93 (gy_Y rfl) rfl ⟨wi_Y_stamp, we_Y_stamp⟩ (by decide) (by decide) (Nat.le_of_ble_eq_true rfl) (by decide) (by decide)
      first | refine pv_icmpN_eq 617 (by decide) d_L_law_612 (by first | assumption | omega | exact Nat.lt_of_le_of_lt Nat.and_le_right (by decide)) (by first | assumption | omega | exact Nat.lt_of_le_of_lt Nat.and_le_right (by decide)) (fun h612 => ?_) (fun h612 => ?_) | refine pv_icmp_eq 617 (by decide) d_L_law_612 (fun h612 => ?_) (fun h612 => ?_)
      · exact step _ _ (h0.2.2.2.2.1)
      · exact absurd (rfl) h612
    · refine pv_aload_n d_L_law_594 rfl rfl ?_
      refine pv_aload_n d_L_law_595 rfl rfl ?_
      refine pv_iload_n d_L_law_596 rfl rfl ?_
      refine pv_iconst d_L_law_597 (nI 1) (by decide) ?_
      first | refine pv_iaddN d_L_law_598 ?_ | refine pv_iadd d_L_law_598 ?_
      refine pv_sld d_L_law_599 hEx (by omega) (by omega) ?_
      rw [hy]
      refine pv_callV1I d_L_law_600 (k_O_stamp h0.1 (by omega) (by omega) ?_) sb_O_stamp wm_L_90 gx_O rfl ⟨wi_O_stamp, we_O_stamp⟩ (by decide) (by decide) (Nat.le_of_ble_eq_true rfl) (by decide) (by decide)
      refine pv_aload_n d_L_law_603 rfl rfl ?_
      refine pv_aload_n d_L_law_604 rfl rfl ?_
      refine pv_iload_n d_L_law_605 rfl rfl ?_
      refine pv_iconst d_L_law_606 (nI 1) (by decide) ?_
      first | refine pv_iaddN d_L_law_607 ?_ | refine pv_iadd d_L_law_607 ?_
      refine pv_sld d_L_law_608 hEx (by omega) (by omega) ?_
      rw [hy]
      refine pv_callV1I d_L_law_609 (k_Y_stamp rfl h0.2.1 (by omega) (by rw [← h0.2.2.2.2.2.1]; omega) ?_) sb_Y_stamp wm_L_93 (gy_Y rfl) rfl ⟨wi_Y_stamp, we_Y_stamp⟩ (by decide) (by decide) (Nat.le_of_ble_eq_true rfl) (by decide) (by decide)
      first | refine pv_icmpN_eq 617 (by decide) d_L_law_612 (by first | assumption | omega | exact Nat.lt_of_le_of_lt Nat.and_le_right (by decide)) (by first | assumption | omega | exact Nat.lt_of_le_of_lt Nat.and_le_right (by decide)) (fun h612 => ?_) (fun h612 => ?_) | refine pv_icmp_eq 617 (by decide) d_L_law_612 (fun h612 => ?_) (fun h612 => ?_)
      · exact step _ _ (h0.2.2.2.2.1)
      · exact absurd (congrArg nI (h0.2.2.2.2.2.2 j (by omega) (by omega))) h612
end LAW
