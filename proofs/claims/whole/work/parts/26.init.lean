/-! 26.init: the constructors -/
section INIT
variable {l : Launch} {D : va_G} {ty : Nat → ClassId} {base b : Nat} {ρ ξ M : List va_E}
def dNf : List Value := [.int 0, .null, .null, .null, .long 0, .int 0, .int 0, .int 0, .int 0, .int 0, .int 0, .int 0]
def dRf : List Value := [.null, .null, .int 0, .int 0, .int 0, .int 0, .long 0]
def dMf : List Value := [.null, .null, .null, .int 0]
def dOf : List Value := [.null, .null, .null, .int 0]
def dYf : List Value := [.null, .null, .null, .null, .null, .null, .null, .null, .null, .null, .int 0, .null, .null, .null, .null, .null, .int 0, .null, .null, .null, .null, .null]
theorem gk {M : List va_E} {k : Nat} {e a : va_E} (hk : k < M.length) : (M.set k e ++ [a])[k]? = some e := by
  rw [List.getElem?_append_left (by rw [List.length_set]; exact hk), List.getElem?_set_self hk]
theorem gk0 {M : List va_E} {k : Nat} {e : va_E} (hk : k < M.length) : (M.set k e)[k]? = some e := List.getElem?_set_self hk
theorem gk1 {M : List va_E} {k : Nat} {e a : va_E} (h : M[k]? = some e) : (M ++ [a])[k]? = some e := by
  rw [List.getElem?_append_left (List.getElem?_eq_some_iff.mp h).1]
  exact h
def newN (M : List va_E) (k n : Nat) : List va_E := (((((M).set k (.inr (1, (dNf).set 0 (.int (nI n)))) ++ ([.inl (0, 8, .inl (fun _ => 0))] : List va_E))).set k (.inr (1, ((dNf).set 0 (.int (nI n))).set 1 (.ref (((M).set k (.inr (1, (dNf).set 0 (.int (nI n))))).length + 1)))) ++ ([.inl (0, 48, .inl (fun _ => 0))] : List va_E))).set k (.inr (1, (((dNf).set 0 (.int (nI n))).set 1 (.ref (((M).set k (.inr (1, (dNf).set 0 (.int (nI n))))).length + 1))).set 2 (.ref (((((M).set k (.inr (1, (dNf).set 0 (.int (nI n)))) ++ ([.inl (0, 8, .inl (fun _ => 0))] : List va_E))).set k (.inr (1, ((dNf).set 0 (.int (nI n))).set 1 (.ref (((M).set k (.inr (1, (dNf).set 0 (.int (nI n))))).length + 1))))).length + 1))))
set_option maxRecDepth 100000 in
set_option maxHeartbeats 1000000 in
theorem k_N_init {post : List va_E → Prop} {k n : Nat} (hk : M[k]? = some (.inr (1, dNf))) (kk : post (newN M k n)) : pv_M l D ty base b 1 2 56 (fun U => U.heap.size = base + M.length) y_N_init c_N_init 2 none [.ref (k + 1), .int (nI n)] (M) (pv_QV D ty base b post) := by
  refine pv_enter [some (.ref (k + 1)), some (.int (nI n))] (by decide) (fun _ => rfl) (fun _ => Nat.le_of_ble_eq_true rfl) ?_
  have hkl : k < M.length := (List.getElem?_eq_some_iff.mp hk).1
  refine pv_aload_n d_N_init_0 rfl rfl ?_
  refine pv_objInit wm_N_3 wi_objinit wc_objinit (by decide) (by decide) (Nat.le_of_ble_eq_true rfl) d_N_init_1 ?_
  refine pv_aload_n d_N_init_4 rfl rfl ?_
  refine pv_iload_n d_N_init_5 rfl rfl ?_
  refine pv_putF d_N_init_6 hk ff_N_9 fp_N_number rfl fo_N_number (fun _ => rfl) (fun _ => rfl) (Nat.le_of_ble_eq_true rfl) ?_
  refine pv_aload_n d_N_init_9 rfl rfl ?_
  refine pv_bipush d_N_init_10 (nI 8) (by decide) ?_
  refine pv_newa (t := 0) (atype := .int) (.inl (fun _ => 0)) (fun _ h => h) (by simp) wa_int rfl (fun _ => rfl) (fun _ => rfl) (fun _ => rfl) (by decide) (by decide) (by decide) (by decide) d_N_init_12 ?_
  refine pv_putF d_N_init_14 (gk (by first | exact hkl | (simp; omega) | simpa using hkl)) ff_N_15 fp_N_queue rfl fo_N_queue (fun _ => rfl) (fun _ => rfl) (Nat.le_of_ble_eq_true rfl) ?_
  refine pv_aload_n d_N_init_17 rfl rfl ?_
  refine pv_bipush d_N_init_18 (nI 48) (by decide) ?_
  refine pv_newa (t := 0) (atype := .int) (.inl (fun _ => 0)) (fun _ h => h) (by simp) wa_int rfl (fun _ => rfl) (fun _ => rfl) (fun _ => rfl) (by decide) (by decide) (by decide) (by decide) d_N_init_20 ?_
  refine pv_putF d_N_init_22 (gk (by first | exact hkl | (simp; omega) | simpa using hkl)) ff_N_19 fp_N_entries rfl fo_N_entries (fun _ => rfl) (fun _ => rfl) (Nat.le_of_ble_eq_true rfl) ?_
  exact pv_vret d_N_init_25 kk
def newR (M : List va_E) (k : Nat) : List va_E := (((((M ++ ([.inl (0, 49, .inl (fun _ => 0))] : List va_E))).set k (.inr (2, (dRf).set 0 (.ref ((M).length + 1)))) ++ ([.inl (0, 5, .inl (fun _ => 0))] : List va_E))).set k (.inr (2, ((dRf).set 0 (.ref ((M).length + 1))).set 1 (.ref ((((M ++ ([.inl (0, 49, .inl (fun _ => 0))] : List va_E))).set k (.inr (2, (dRf).set 0 (.ref ((M).length + 1))))).length + 1))))).set k (.inr (2, (((dRf).set 0 (.ref ((M).length + 1))).set 1 (.ref ((((M ++ ([.inl (0, 49, .inl (fun _ => 0))] : List va_E))).set k (.inr (2, (dRf).set 0 (.ref ((M).length + 1))))).length + 1))).set 4 (.int (-1))))
set_option maxRecDepth 100000 in
set_option maxHeartbeats 1000000 in
theorem k_R_init {post : List va_E → Prop} {k : Nat} (hk : M[k]? = some (.inr (2, dRf))) (kk : post (newR M k)) : pv_M l D ty base b 1 2 54 (fun U => U.heap.size = base + M.length) y_R_init c_R_init 1 none [.ref (k + 1)] (M) (pv_QV D ty base b post) := by
  refine pv_enter [some (.ref (k + 1))] (by decide) (fun _ => rfl) (fun _ => Nat.le_of_ble_eq_true rfl) ?_
  have hkl : k < M.length := (List.getElem?_eq_some_iff.mp hk).1
  refine pv_aload_n d_R_init_0 rfl rfl ?_
  refine pv_objInit wm_R_3 wi_objinit wc_objinit (by decide) (by decide) (Nat.le_of_ble_eq_true rfl) d_R_init_1 ?_
  refine pv_aload_n d_R_init_4 rfl rfl ?_
  refine pv_bipush d_R_init_5 (nI 49) (by decide) ?_
  refine pv_newa (t := 0) (atype := .int) (.inl (fun _ => 0)) (fun _ h => h) (by simp) wa_int rfl (fun _ => rfl) (fun _ => rfl) (fun _ => rfl) (by decide) (by decide) (by decide) (by decide) d_R_init_7 ?_
  refine pv_putF d_R_init_9 (gk1 hk) ff_R_9 fp_R_messageAt rfl fo_R_messageAt (fun _ => rfl) (fun _ => rfl) (Nat.le_of_ble_eq_true rfl) ?_
  refine pv_aload_n d_R_init_12 rfl rfl ?_
  refine pv_iconst d_R_init_13 (nI 5) (by decide) ?_
  refine pv_newa (t := 0) (atype := .int) (.inl (fun _ => 0)) (fun _ h => h) (by simp) wa_int rfl (fun _ => rfl) (fun _ => rfl) (fun _ => rfl) (by decide) (by decide) (by decide) (by decide) d_R_init_14 ?_
  refine pv_putF d_R_init_16 (gk (by first | exact hkl | (simp; omega) | simpa using hkl)) ff_R_15 fp_R_marks rfl fo_R_marks (fun _ => rfl) (fun _ => rfl) (Nat.le_of_ble_eq_true rfl) ?_
  refine pv_aload_n d_R_init_19 rfl rfl ?_
  refine pv_iconst d_R_init_20 (-1) (by decide) ?_
  refine pv_put d_R_init_21 (gk0 (by first | exact hkl | (simp; omega) | simpa using hkl)) ff_R_18 fp_R_tokenAt (fun _ => rfl) (fun _ => rfl) (Nat.le_of_ble_eq_true rfl) ?_
  exact pv_vret d_R_init_24 kk
def newM (M : List va_E) (k : Nat) : List va_E := ((((((M ++ ([.inl (0, 49, .inl (fun _ => 0))] : List va_E))).set k (.inr (0, (dMf).set 0 (.ref ((M).length + 1)))) ++ ([.inl (1, 49, .inl (fun _ => 0))] : List va_E))).set k (.inr (0, ((dMf).set 0 (.ref ((M).length + 1))).set 1 (.ref ((((M ++ ([.inl (0, 49, .inl (fun _ => 0))] : List va_E))).set k (.inr (0, (dMf).set 0 (.ref ((M).length + 1))))).length + 1)))) ++ ([.inl (0, 49, .inl (fun _ => 0))] : List va_E))).set k (.inr (0, (((dMf).set 0 (.ref ((M).length + 1))).set 1 (.ref ((((M ++ ([.inl (0, 49, .inl (fun _ => 0))] : List va_E))).set k (.inr (0, (dMf).set 0 (.ref ((M).length + 1))))).length + 1))).set 2 (.ref ((((((M ++ ([.inl (0, 49, .inl (fun _ => 0))] : List va_E))).set k (.inr (0, (dMf).set 0 (.ref ((M).length + 1)))) ++ ([.inl (1, 49, .inl (fun _ => 0))] : List va_E))).set k (.inr (0, ((dMf).set 0 (.ref ((M).length + 1))).set 1 (.ref ((((M ++ ([.inl (0, 49, .inl (fun _ => 0))] : List va_E))).set k (.inr (0, (dMf).set 0 (.ref ((M).length + 1))))).length + 1))))).length + 1))))
set_option maxRecDepth 100000 in
set_option maxHeartbeats 1000000 in
theorem k_M_init {post : List va_E → Prop} {k : Nat} (hk : M[k]? = some (.inr (0, dMf))) (kk : post (newM M k)) : pv_M l D ty base b 1 3 147 (fun U => U.heap.size = base + M.length) y_M_init c_M_init 1 none [.ref (k + 1)] (M) (pv_QV D ty base b post) := by
  refine pv_enter [some (.ref (k + 1))] (by decide) (fun _ => rfl) (fun _ => Nat.le_of_ble_eq_true rfl) ?_
  have hkl : k < M.length := (List.getElem?_eq_some_iff.mp hk).1
  refine pv_aload_n d_M_init_0 rfl rfl ?_
  refine pv_objInit wm_M_3 wi_objinit wc_objinit (by decide) (by decide) (Nat.le_of_ble_eq_true rfl) d_M_init_1 ?_
  refine pv_aload_n d_M_init_4 rfl rfl ?_
  refine pv_bipush d_M_init_5 (nI 49) (by decide) ?_
  refine pv_newa (t := 0) (atype := .int) (.inl (fun _ => 0)) (fun _ h => h) (by simp) wa_int rfl (fun _ => rfl) (fun _ => rfl) (fun _ => rfl) (by decide) (by decide) (by decide) (by decide) d_M_init_7 ?_
  refine pv_putF d_M_init_9 (gk1 hk) ff_M_9 fp_M_origins rfl fo_M_origins (fun _ => rfl) (fun _ => rfl) (Nat.le_of_ble_eq_true rfl) ?_
  refine pv_aload_n d_M_init_12 rfl rfl ?_
  refine pv_bipush d_M_init_13 (nI 49) (by decide) ?_
  refine pv_newa (t := 1) (atype := .boolean) (.inl (fun _ => 0)) (fun _ h => h) (by simp) wa_boolean rfl (fun _ => rfl) (fun _ => rfl) (fun _ => rfl) (by decide) (by decide) (by decide) (by decide) d_M_init_15 ?_
  refine pv_putF d_M_init_17 (gk (by first | exact hkl | (simp; omega) | simpa using hkl)) ff_M_15 fp_M_safe rfl fo_M_safe (fun _ => rfl) (fun _ => rfl) (Nat.le_of_ble_eq_true rfl) ?_
  refine pv_aload_n d_M_init_20 rfl rfl ?_
  refine pv_bipush d_M_init_21 (nI 49) (by decide) ?_
  refine pv_newa (t := 0) (atype := .int) (.inl (fun _ => 0)) (fun _ h => h) (by simp) wa_int rfl (fun _ => rfl) (fun _ => rfl) (fun _ => rfl) (by decide) (by decide) (by decide) (by decide) d_M_init_23 ?_
  refine pv_putF d_M_init_25 (gk (by first | exact hkl | (simp; omega) | simpa using hkl)) ff_M_19 fp_M_stamps rfl fo_M_stamps (fun _ => rfl) (fun _ => rfl) (Nat.le_of_ble_eq_true rfl) ?_
  exact pv_vret d_M_init_28 kk
end INIT
