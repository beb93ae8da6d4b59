/-! 30.sim: the reference for a node, up or down; what the pure layer owes the law's walk -/
section SIM
variable {l : Launch} {D : va_G} {ty : Nat → ClassId} {base b : Nat} {τ : Nat → Nat → Nat} {ρ ξ : List va_E}
set_option maxRecDepth 100000 in
set_option maxHeartbeats 4000000 in
theorem k_Y_visit_dn5 {post : Int32 → List va_E → Prop} (hξ : ξ.length = 40) {n : Nat} (hn : n < 5) (hb : bY τ) (hu : τ 0 n = 0) (k : post (-2) (ξ ++ memY τ)) : pv_M l D ty base b 5 0 0 (fun _ => True) y_Y_visit c_Y_visit 9 (some .int) [.ref (40 + 1), .int (nI (n))] (ξ ++ memY τ) (pv_QI D ty base b post) := by
  refine pv_enter [some (.ref (40 + 1)), some (.int (nI (n))), none, none, none, none, none, none, none] (by decide) (fun _ => rfl) (fun _ => Nat.le_of_ble_eq_true rfl) ?_
  refine pv_aload_n d_Y_visit_0 rfl rfl ?_
  refine pv_iload_n d_Y_visit_1 rfl rfl ?_
  refine pv_callV1I d_Y_visit_2 (k_Y_refuse_dn hξ hn hb hu ?_) sb_Y_refuse wm_Y_91 (gy_Y (by first | assumption | omega)) rfl ⟨wi_Y_refuse, we_Y_refuse⟩ (by decide) (by decide) (Nat.le_of_ble_eq_true rfl) (by decide) (by decide)
  refine pv_ist2 d_Y_visit_5 rfl (by decide) ?_
  refine pv_iload_n d_Y_visit_6 rfl rfl ?_
  first | refine pv_ifN_eq 12 (by decide) d_Y_visit_7 (by first | assumption | omega | exact Nat.lt_of_le_of_lt Nat.and_le_right (by decide)) (fun h7 => ?_) (fun h7 => ?_) | refine pv_if_eq 12 (by decide) d_Y_visit_7 (fun h7 => ?_) (fun h7 => ?_)
  · exact absurd h7 (by decide)
  · refine pv_iload_n d_Y_visit_10 rfl rfl ?_
    refine pv_iret d_Y_visit_11 ?_
    exact k

theorem k_Y_ring {post : Int32 → List va_E → Prop} (hξ : ξ.length = 40) {n : Nat} (hn : n < 5) (hb : bY τ) (k : post (b_ring τ n) (ξ ++ memY τ)) : pv_M l D ty base b 2 0 0 (fun _ => True) y_Y_ring c_Y_ring 3 (some .int) [.ref (40 + 1), .int (nI n)] (ξ ++ memY τ) (pv_QI D ty base b post) := by
  by_cases hu : τ 0 n = 0
  · exact k_Y_ring_dn hξ hn hb hu (by rw [b_ring, if_pos hu] at k; exact k)
  · exact k_Y_ring_up hξ hn hb hu (by rw [b_ring, if_neg hu] at k; exact k)
theorem k_Y_members {post : Int32 → List va_E → Prop} (hξ : ξ.length = 40) {n : Nat} (hn : n < 5) (hb : bY τ) (k : post (b_members τ n) (ξ ++ memY τ)) : pv_M l D ty base b 2 0 0 (fun _ => True) y_Y_members c_Y_members 3 (some .int) [.ref (40 + 1), .int (nI n)] (ξ ++ memY τ) (pv_QI D ty base b post) := by
  by_cases hu : τ 0 n = 0
  · exact k_Y_members_dn hξ hn hb hu (by rw [b_members, if_pos hu] at k; exact k)
  · exact k_Y_members_up hξ hn hb hu (by rw [b_members, if_neg hu] at k; exact k)
theorem k_Y_token {post : Int32 → List va_E → Prop} (hξ : ξ.length = 40) {n : Nat} (hn : n < 5) (hb : bY τ) (k : post (b_token τ n) (ξ ++ memY τ)) : pv_M l D ty base b 2 0 0 (fun _ => True) y_Y_token c_Y_token 3 (some .int) [.ref (40 + 1), .int (nI n)] (ξ ++ memY τ) (pv_QI D ty base b post) := by
  by_cases hu : τ 0 n = 0
  · exact k_Y_token_dn hξ hn hb hu (by rw [b_token, if_pos hu] at k; exact k)
  · exact k_Y_token_up hξ hn hb hu (by rw [b_token, if_neg hu] at k; exact k)
theorem k_Y_last {post : Int32 → List va_E → Prop} (hξ : ξ.length = 40) {n : Nat} (hn : n < 5) (hb : bY τ) (k : post (b_last τ n) (ξ ++ memY τ)) : pv_M l D ty base b 2 0 0 (fun _ => True) y_Y_last c_Y_last 3 (some .int) [.ref (40 + 1), .int (nI n)] (ξ ++ memY τ) (pv_QI D ty base b post) := by
  by_cases hu : τ 0 n = 0
  · exact k_Y_last_dn hξ hn hb hu (by rw [b_last, if_pos hu] at k; exact k)
  · exact k_Y_last_up hξ hn hb hu (by rw [b_last, if_neg hu] at k; exact k)
theorem k_Y_requests {post : Int32 → List va_E → Prop} (hξ : ξ.length = 40) {n : Nat} (hn : n < 5) (hb : bY τ) (k : post (b_requests τ n) (ξ ++ memY τ)) : pv_M l D ty base b 2 0 0 (fun _ => True) y_Y_requests c_Y_requests 6 (some .int) [.ref (40 + 1), .int (nI n)] (ξ ++ memY τ) (pv_QI D ty base b post) := by
  by_cases hu : τ 0 n = 0
  · exact k_Y_requests_dn hξ hn hb hu (by rw [b_requests, if_pos hu] at k; exact k)
  · exact k_Y_requests_up hξ hn hb hu (by rw [b_requests, if_neg hu] at k; exact k)
theorem k_Y_reach {post : Int32 → List va_E → Prop} (hξ : ξ.length = 40) {n : Nat} (hn : n < 5) (hb : bY τ) (k : post (b_reach τ n) (ξ ++ memY τ)) : pv_M l D ty base b 3 0 0 (fun _ => True) y_Y_reach c_Y_reach 3 (some .int) [.ref (40 + 1), .int (nI n)] (ξ ++ memY τ) (pv_QI D ty base b post) := by
  by_cases hu : τ 0 n = 0
  · exact k_Y_reach_dn hξ hn hb hu (by rw [b_reach, if_pos hu] at k; exact k)
  · exact k_Y_reach_up hξ hn hb hu (by rw [b_reach, if_neg hu] at k; exact k)
theorem k_Y_line {post : Int32 → List va_E → Prop} (hξ : ξ.length = 40) {n : Nat} (hn : n < 5) (hb : bY τ) (k : post (b_line τ n) (ξ ++ memY τ)) : pv_M l D ty base b 2 0 0 (fun _ => True) y_Y_line c_Y_line 3 (some .int) [.ref (40 + 1), .int (nI n)] (ξ ++ memY τ) (pv_QI D ty base b post) := by
  by_cases hu : τ 0 n = 0
  · exact k_Y_line_dn hξ hn hb hu (by rw [b_line, if_pos hu] at k; exact k)
  · exact k_Y_line_up hξ hn hb hu (by rw [b_line, if_neg hu] at k; exact k)
theorem k_Y_waiting {post : Int32 → List va_E → Prop} (hξ : ξ.length = 40) {n : Nat} (hn : n < 5) (hb : bY τ) (k : post (b_waiting τ n) (ξ ++ memY τ)) : pv_M l D ty base b 2 0 0 (fun _ => True) y_Y_waiting c_Y_waiting 3 (some .int) [.ref (40 + 1), .int (nI n)] (ξ ++ memY τ) (pv_QI D ty base b post) := by
  by_cases hu : τ 0 n = 0
  · exact k_Y_waiting_dn hξ hn hb hu (by rw [b_waiting, if_pos hu] at k; exact k)
  · exact k_Y_waiting_up hξ hn hb hu (by rw [b_waiting, if_neg hu] at k; exact k)
theorem k_Y_drop {post : Int32 → List va_E → Prop} (hξ : ξ.length = 40) {n : Nat} (hn : n < 5) (hb : bY τ) (k : post (b_drop τ n).1 (ξ ++ memY (b_drop τ n).2)) : pv_M l D ty base b 2 0 0 (fun _ => True) y_Y_drop c_Y_drop 2 (some .boolean) [.ref (40 + 1), .int (nI n)] (ξ ++ memY τ) (pv_QI D ty base b post) := by
  by_cases hu : τ 0 n = 0
  · exact k_Y_drop_dn hξ hn hb hu (by rw [b_drop, if_pos hu] at k; exact k)
  · exact k_Y_drop_up hξ hn hb hu (by exact k)
theorem k_Y_crash {post : Int32 → List va_E → Prop} (hξ : ξ.length = 40) {n : Nat} (hn : n < 5) (hb : bY τ) (k : post (b_crash τ n).1 (ξ ++ memY (b_crash τ n).2)) : pv_M l D ty base b 2 0 0 (fun _ => True) y_Y_crash c_Y_crash 4 (some .boolean) [.ref (40 + 1), .int (nI n)] (ξ ++ memY τ) (pv_QI D ty base b post) := by
  by_cases hu : τ 0 n = 0
  · exact k_Y_crash_dn hξ hn hb hu (by rw [b_crash, if_pos hu] at k; exact k)
  · exact k_Y_crash_up hξ hn hb hu (by exact k)
theorem k_Y_send {post : Int32 → List va_E → Prop} (hξ : ξ.length = 40) {n s : Nat} (hn : n < 5) (hb : bY τ) (hs : s ≤ 1) (k : post (b_send τ n s).1 (ξ ++ memY (b_send τ n s).2)) : pv_M l D ty base b 2 0 0 (fun _ => True) y_Y_send c_Y_send 4 (some .int) [.ref (40 + 1), .int (nI n), .int (nI s)] (ξ ++ memY τ) (pv_QI D ty base b post) := by
  by_cases hu : τ 0 n = 0
  · exact k_Y_send_dn hξ hn hb hu (by rw [b_send, if_pos hu] at k; exact k)
  · exact k_Y_send_up hξ hn hb hu hs (by exact k)
theorem k_Y_tick {post : Int32 → List va_E → Prop} (hξ : ξ.length = 40) {n : Nat} (hn : n < 5) (hb : bY τ) (h6 : τ 6 n ≤ 3) (ok : τ 0 n ≠ 0 → ¬ τ 6 n + 1 < 4 → y_formOK (sU τ 6 n (τ 6 n + 1)) (τ 1 n)) (k : post (b_tick τ n).1 (ξ ++ memY (b_tick τ n).2)) : pv_M l D ty base b 5 0 0 (fun _ => True) y_Y_tick c_Y_tick 3 (some .int) [.ref (40 + 1), .int (nI n)] (ξ ++ memY τ) (pv_QI D ty base b post) := by
  by_cases hu : τ 0 n = 0
  · exact k_Y_tick_dn hξ hn hb hu (by rw [b_tick, if_pos hu] at k; exact k)
  · exact k_Y_tick_up hξ hn hb hu h6 (ok hu) (by exact k)
theorem k_Y_visit {post : Int32 → List va_E → Prop} (hξ : ξ.length = 40) {n : Nat} (hn : n < 5) (hb : bY τ) (ok : τ 0 n ≠ 0 → τ 17 (τ 2 n) = n + 1 → y_visOK τ n (τ 2 n)) (k : post (b_visit τ n).1 (ξ ++ memY (b_visit τ n).2)) : pv_M l D ty base b 5 0 0 (fun _ => True) y_Y_visit c_Y_visit 9 (some .int) [.ref (40 + 1), .int (nI n)] (ξ ++ memY τ) (pv_QI D ty base b post) := by
  by_cases hu : τ 0 n = 0
  · exact k_Y_visit_dn5 hξ hn hb hu (by rw [b_visit, if_pos hu] at k; exact k)
  · exact k_Y_visit_up hξ hn hb hu (ok hu) (by exact k)
/-- what is owed of a relation between the two states, c calls behind the start -/
def SimOK (Sim : Nat → (Nat → Nat → Nat) → (Nat → Nat → Nat) → Prop) : Prop := ∀ (c : Nat) (σ τ : Nat → Nat → Nat), c < 512 → Sim c σ τ →
  (bX σ ∧ bY τ ∧ σ 0 0 + 1 < 600 ∧ τ 16 0 + 1 < 520 ∧ Sim (c + 1) σ τ ∧ σ 15 0 = τ 10 0 ∧ ∀ j, 1 ≤ j → j ≤ σ 15 0 → σ 62 j = b_stamp τ j) ∧
  ∀ n, n < 5 →
    (σ 9 n ≤ 3 ∧ τ 6 n ≤ 3 ∧ (σ 1 n = 0 ↔ τ 0 n = 0)) ∧
    (∀ s, s ≤ 1 → (a_send σ n s).1 = (b_send τ n s).1 ∧ Sim (c + 1) (a_send σ n s).2 (b_send τ n s).2) ∧
    ((τ 0 n ≠ 0 → τ 17 (τ 2 n) = n + 1 → y_visOK τ n (τ 2 n)) ∧ (a_visit σ n).1 = (b_visit τ n).1 ∧ Sim (c + 1) (a_visit σ n).2 (b_visit τ n).2) ∧
    ((τ 0 n ≠ 0 → ¬ τ 6 n + 1 < 4 → y_formOK (sU τ 6 n (τ 6 n + 1)) (τ 1 n)) ∧ (a_tick σ n).1 = (b_tick τ n).1 ∧ Sim (c + 1) (a_tick σ n).2 (b_tick τ n).2) ∧
    ((a_crash σ n).1 = (b_crash τ n).1 ∧ Sim (c + 1) (a_crash σ n).2 (b_crash τ n).2) ∧
    ((a_restart σ n).1 = (b_restart τ n).1 ∧ Sim (c + 1) (a_restart σ n).2 (b_restart τ n).2) ∧
    (∀ j, j < 3 → Sim (c + 1) (sU σ 5 n j) (sU τ 1 n j)) ∧
    (∀ j, j ≤ 20 → σ 1 n ≠ 0 → Sim (c + 1) (sU σ 8 n j) (sU τ 5 n j)) ∧
    ((a_drop σ n).1 = (b_drop τ n).1 ∧ Sim (c + 1) (a_drop σ n).2 (b_drop τ n).2) ∧
    (a_ring σ n = b_ring τ n ∧ a_members σ n = b_members τ n ∧ a_token σ n = b_token τ n ∧ a_last σ n = b_last τ n ∧ a_requests σ n = b_requests τ n ∧ a_reach σ n = b_reach τ n ∧ a_line σ n = b_line τ n ∧ a_waiting σ n = b_waiting τ n) ∧
    (σ 4 n = τ 9 n ∧ ∀ j, j < σ 4 n → σ (30 + n) j = τ 8 (48 * n + j))
theorem five_four {x : Int32} (h : x < 0 ∨ nI 5 ≤ x) : x < 0 ∨ nI 4 < x := by
  rcases h with h | h
  · exact Or.inl h
  · refine Or.inr ?_
    rw [Int32.lt_iff_toInt_lt, nI_toInt (by decide)]
    rw [Int32.le_iff_toInt_le, nI_toInt (by decide)] at h
    omega
theorem ix5 (x : Int32) : (x < 0 ∨ nI 5 ≤ x) ∨ ∃ j : Nat, j < 5 ∧ x = nI j := by
  rcases pk_ix x (n := 5) (by decide) with h | h | h
  · exact Or.inl (Or.inl h)
  · exact Or.inl (Or.inr h)
  · exact Or.inr h
theorem le_lt {x : Int32} {n : Nat} (hn : n < 2 ^ 30) (h : nI (n + 1) ≤ x) : nI n < x := by
  rw [Int32.lt_iff_toInt_lt, nI_toInt (by omega)]
  rw [Int32.le_iff_toInt_le, nI_toInt (by omega)] at h
  omega
theorem cmp3 {L i : Nat} (hL : L ≤ 1536) (hi : i < 4000) : nI L - nI 3 < nI i ↔ L < i + 3 := by
  rw [Int32.lt_iff_toInt_lt, pk_sub_toInt (by omega) (by decide), nI_toInt (by omega)]
  omega
end SIM
