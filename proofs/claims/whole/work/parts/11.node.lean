/-! 11.node: what the methods of Node do -/
section NODE
variable {l : Launch} {D : va_G} {ty : Nat → ClassId} {base b : Nat} {σ : Nat → Nat → Nat} {ρ ξ : List va_E}
set_option maxRecDepth 100000 in
set_option maxHeartbeats 4000000 in
theorem k_N_isUp {post : Int32 → List va_E → Prop} {n : Nat} (hn : n < 5) (k : post (nI (b2 (decide (σ 1 n ≠ 0)))) (memX σ ++ ρ)) : pv_M l D ty base b 0 0 0 (fun _ => True) y_N_isUp c_N_isUp 1 (some .boolean) [.ref (pN n + 1)] (memX σ ++ ρ) (pv_QI D ty base b post) := by
  refine pv_enter [some (.ref (pN n + 1))] (by decide) (fun _ => rfl) (fun _ => Nat.le_of_ble_eq_true rfl) ?_
  refine pv_aload_n d_N_isUp_0 rfl rfl ?_
  refine gN_ring d_N_isUp_1 ff_N_22 (by first | assumption | omega) ?_
  refine pv_ifnullX 11 (by decide) d_N_isUp_4 (fun hnull => ?_) (fun rr hring => ?_)
  · refine pv_iconst d_N_isUp_11 (nI 0) (by decide) ?_
    refine pv_zret d_N_isUp_12 (by first | rfl | decide) ?_
    first | (simpa [b2, hnull] using k) | (simpa [b2, hring] using k)
  · refine pv_iconst d_N_isUp_7 (nI 1) (by decide) ?_
    refine pv_goto 12 (by decide) d_N_isUp_8 ?_
    refine pv_zret d_N_isUp_12 (by first | rfl | decide) ?_
    first | (simpa [b2, hnull] using k) | (simpa [b2, hring] using k)

set_option maxRecDepth 100000 in
set_option maxHeartbeats 4000000 in
theorem k_N_holds {post : Int32 → List va_E → Prop} {n q : Nat} (hn : n < 5) (hb : bX σ) (hq : q < 49) (k : post (nI (b2 ((σ 2 n).testBit q))) (memX σ ++ ρ)) : pv_M l D ty base b 0 0 0 (fun _ => True) y_N_holds c_N_holds 2 (some .boolean) [.ref (pN n + 1), .int (nI q)] (memX σ ++ ρ) (pv_QI D ty base b post) := by
  refine pv_enter [some (.ref (pN n + 1)), some (.int (nI q))] (by decide) (fun _ => rfl) (fun _ => Nat.le_of_ble_eq_true rfl) ?_
  have hb2 : σ 2 n < 2 ^ 49 := hb 2 n
  refine pv_aload_n d_N_holds_0 rfl rfl ?_
  refine gN_held d_N_holds_1 ff_N_26 (by first | assumption | omega) ?_
  refine pv_lconst d_N_holds_4 (lN 1) (by decide) ?_
  refine pv_iload_n d_N_holds_5 rfl rfl ?_
  refine pv_lshl1 d_N_holds_6 (by first | assumption | omega) ?_
  first | refine pv_landN d_N_holds_7 ?_ | refine pv_landC d_N_holds_7 ?_
  refine pv_lconst d_N_holds_8 (lN 0) (by decide) ?_
  refine pv_lcmp_eq 17 d_N_holds_9 d_N_holds_10 (by decide) (by first | omega | exact Nat.lt_of_le_of_lt Nat.and_le_left (by first | assumption | omega) | exact Nat.lt_of_le_of_lt Nat.and_le_right (by decide)) (by first | omega | exact Nat.lt_of_le_of_lt Nat.and_le_left (by first | assumption | omega) | exact Nat.lt_of_le_of_lt Nat.and_le_right (by decide)) (fun h10 => ?_) (fun h10 => ?_)
  · refine pv_iconst d_N_holds_17 (nI 0) (by decide) ?_
    refine pv_zret d_N_holds_18 (by first | rfl | decide) ?_
    first | (have h9 := tb_and.mp h10; simpa [b2, h9] using k) | (have h9 := mt tb_and.mpr h10; simp only [Bool.not_eq_false] at h9; simpa [b2, h9] using k)
  · refine pv_iconst d_N_holds_13 (nI 1) (by decide) ?_
    refine pv_goto 18 (by decide) d_N_holds_14 ?_
    refine pv_zret d_N_holds_18 (by first | rfl | decide) ?_
    first | (have h9 := tb_and.mp h10; simpa [b2, h9] using k) | (have h9 := mt tb_and.mpr h10; simp only [Bool.not_eq_false] at h9; simpa [b2, h9] using k)

end NODE
