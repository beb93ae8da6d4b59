/-! 27.initO: the class's own constructor -/
section INITO
variable {l : Launch} {D : va_G} {ty : Nat → ClassId} {base b : Nat} {ρ ξ M : List va_E}
def σz : Nat → Nat → Nat := fun _ _ => 0
def nArr : Nat → Nat → Option Nat
  | 0 => fun _ => none
  | i + 1 => va_up (nArr i) i (some (pN i + 1))
def rArr : Nat → Nat → Option Nat
  | 0 => fun _ => none
  | i + 1 => va_up (rArr i) i (some (pR i + 1))
theorem nArr5 : nArr 5 = fun j => if j < 5 then some (pN j + 1) else none := by
  funext j
  match j with
  | 0 => rfl
  | 1 => rfl
  | 2 => rfl
  | 3 => rfl
  | 4 => rfl
  | k + 5 =>
    rw [if_neg (by omega)]
    simp [nArr, va_up]
theorem rArr6 : rArr 6 = fun j => if j < 6 then some (pR j + 1) else none := by
  funext j
  match j with
  | 0 => rfl
  | 1 => rfl
  | 2 => rfl
  | 3 => rfl
  | 4 => rfl
  | 5 => rfl
  | k + 6 =>
    rw [if_neg (by omega)]
    simp [rArr, va_up]
def tN (n : Nat) : List va_E := [xN σz n, xa_queue σz n, xa_entries σz n]
def tR (n : Nat) : List va_E := [xR σz n, xa_messageAt σz n, xa_marks σz n]
set_option maxRecDepth 100000 in
set_option maxHeartbeats 400000 in
theorem k_O_init {post : List va_E → Prop}  (kk : post (memX (x_enterNew σz 31) ++ [])) : pv_M l D ty base b 4 39 868 (fun U => U.heap.size = base + ([.inr (3, dOf)] : List va_E).length) y_O_init c_O_init 2 none [.ref (0 + 1)] ([.inr (3, dOf)]) (pv_QV D ty base b post) := by
  refine pv_enter [some (.ref (0 + 1)), none] (by decide) (fun _ => rfl) (fun _ => Nat.le_of_ble_eq_true rfl) ?_
  refine pv_aload_n d_O_init_0 rfl rfl ?_
  refine pv_objInit wm_O_1 wi_objinit wc_objinit (by decide) (by decide) (Nat.le_of_ble_eq_true rfl) d_O_init_1 ?_
  refine pv_aload_n d_O_init_4 rfl rfl ?_
  refine pv_iconst d_O_init_5 (nI 5) (by decide) ?_
  refine pv_newq3 (fun _ h => h) rfl wl_O_9 (by decide) (by decide) (by decide) (by decide) d_O_init_6 ?_
  refine pv_putF d_O_init_9 (k := 0) rfl ff_O_11 fp_O_nodes rfl fo_O_nodes (fun _ => rfl) (fun _ => rfl) (Nat.le_of_ble_eq_true rfl) ?_
  refine pv_iconst d_O_init_12 (nI 0) (by decide) ?_
  refine pv_ist1 d_O_init_13 rfl (by decide) ?_
  show pv_V l D ty base b c_O_init 2 y_O_init.cls none y_O_init.name (pv_rm 4 39 868) (fun U => U.heap.size = base + ([.inr (3, dOf)] : List va_E).length) (pv_Qf base 39 868 (pv_QV D ty base b post)) 1 5 14 [some (.ref (0 + 1)), some (.int (nI 0))] [] ([.inr (3, dOf.set 0 (.ref (1 + 1))), .inl (3, 5, .inr (.inr (.inr (.inr (nArr 0)))))])
  refine pv_iload_n d_O_init_14 rfl rfl ?_
  refine pv_iconst d_O_init_15 (nI 5) (by decide) ?_
  refine pv_icmpN_ge 39 (by decide) d_O_init_16 (by decide) (by decide) (fun h => by omega) (fun _ => ?_)
  refine pv_aload_n d_O_init_19 rfl rfl ?_
  refine pv_get d_O_init_20 (k := 0) rfl ff_O_11 rfl ?_
  refine pv_iload_n d_O_init_23 rfl rfl ?_
  refine pv_new (ci := 1) (fun _ h => h) rfl rfl lay_N ty_N ty_N_ok wl_O_9 wt_N wn_N (fs := dNf) (by decide +kernel) (fun _ => rfl) (by decide) (by decide) d_O_init_24 ?_
  refine pv_dup d_O_init_27 rfl ?_
  refine pv_iload_n d_O_init_28 rfl rfl ?_
  refine pv_callI1V d_O_init_29 (k_N_init (k := 2) (n := 0) rfl ?_) sb_N_init wm_O_15 (fun _ h => h) rfl wi_N_init rfl (by decide) (by decide) (Nat.le_of_ble_eq_true rfl) (by decide) (by decide)
  refine pv_aast3 d_O_init_32 (k := 1) (q := 2) (j := 0) (f := nArr 0) (N := 12) (T := T_N) rfl rfl rfl (by decide) (by decide) ?_
  refine pv_inc1 d_O_init_33 rfl (by decide) ?_
  refine pv_goto 14 (by decide) d_O_init_36 ?_
  show pv_V l D ty base b c_O_init 2 y_O_init.cls none y_O_init.name (pv_rm 4 39 868) (fun U => U.heap.size = base + ([.inr (3, dOf)] : List va_E).length) (pv_Qf base 39 868 (pv_QV D ty base b post)) 4 73 14 [some (.ref (0 + 1)), some (.int (nI 1))] [] ([.inr (3, dOf.set 0 (.ref (1 + 1))), .inl (3, 5, .inr (.inr (.inr (.inr (nArr 1))))), xN σz 0, xa_queue σz 0, xa_entries σz 0])
  refine pv_iload_n d_O_init_14 rfl rfl ?_
  refine pv_iconst d_O_init_15 (nI 5) (by decide) ?_
  refine pv_icmpN_ge 39 (by decide) d_O_init_16 (by decide) (by decide) (fun h => by omega) (fun _ => ?_)
  refine pv_aload_n d_O_init_19 rfl rfl ?_
  refine pv_get d_O_init_20 (k := 0) rfl ff_O_11 rfl ?_
  refine pv_iload_n d_O_init_23 rfl rfl ?_
  refine pv_new (ci := 1) (fun _ h => h) rfl rfl lay_N ty_N ty_N_ok wl_O_9 wt_N wn_N (fs := dNf) (by decide +kernel) (fun _ => rfl) (by decide) (by decide) d_O_init_24 ?_
  refine pv_dup d_O_init_27 rfl ?_
  refine pv_iload_n d_O_init_28 rfl rfl ?_
  refine pv_callI1V d_O_init_29 (k_N_init (k := 5) (n := 1) rfl ?_) sb_N_init wm_O_15 (fun _ h => h) rfl wi_N_init rfl (by decide) (by decide) (Nat.le_of_ble_eq_true rfl) (by decide) (by decide)
  refine pv_aast3 d_O_init_32 (k := 1) (q := 5) (j := 1) (f := nArr 1) (N := 12) (T := T_N) rfl rfl rfl (by decide) (by decide) ?_
  refine pv_inc1 d_O_init_33 rfl (by decide) ?_
  refine pv_goto 14 (by decide) d_O_init_36 ?_
  show pv_V l D ty base b c_O_init 2 y_O_init.cls none y_O_init.name (pv_rm 4 39 868) (fun U => U.heap.size = base + ([.inr (3, dOf)] : List va_E).length) (pv_Qf base 39 868 (pv_QV D ty base b post)) 7 141 14 [some (.ref (0 + 1)), some (.int (nI 2))] [] ([.inr (3, dOf.set 0 (.ref (1 + 1))), .inl (3, 5, .inr (.inr (.inr (.inr (nArr 2))))), xN σz 0, xa_queue σz 0, xa_entries σz 0, xN σz 1, xa_queue σz 1, xa_entries σz 1])
  refine pv_iload_n d_O_init_14 rfl rfl ?_
  refine pv_iconst d_O_init_15 (nI 5) (by decide) ?_
  refine pv_icmpN_ge 39 (by decide) d_O_init_16 (by decide) (by decide) (fun h => by omega) (fun _ => ?_)
  refine pv_aload_n d_O_init_19 rfl rfl ?_
  refine pv_get d_O_init_20 (k := 0) rfl ff_O_11 rfl ?_
  refine pv_iload_n d_O_init_23 rfl rfl ?_
  refine pv_new (ci := 1) (fun _ h => h) rfl rfl lay_N ty_N ty_N_ok wl_O_9 wt_N wn_N (fs := dNf) (by decide +kernel) (fun _ => rfl) (by decide) (by decide) d_O_init_24 ?_
  refine pv_dup d_O_init_27 rfl ?_
  refine pv_iload_n d_O_init_28 rfl rfl ?_
  refine pv_callI1V d_O_init_29 (k_N_init (k := 8) (n := 2) rfl ?_) sb_N_init wm_O_15 (fun _ h => h) rfl wi_N_init rfl (by decide) (by decide) (Nat.le_of_ble_eq_true rfl) (by decide) (by decide)
  refine pv_aast3 d_O_init_32 (k := 1) (q := 8) (j := 2) (f := nArr 2) (N := 12) (T := T_N) rfl rfl rfl (by decide) (by decide) ?_
  refine pv_inc1 d_O_init_33 rfl (by decide) ?_
  refine pv_goto 14 (by decide) d_O_init_36 ?_
  show pv_V l D ty base b c_O_init 2 y_O_init.cls none y_O_init.name (pv_rm 4 39 868) (fun U => U.heap.size = base + ([.inr (3, dOf)] : List va_E).length) (pv_Qf base 39 868 (pv_QV D ty base b post)) 10 209 14 [some (.ref (0 + 1)), some (.int (nI 3))] [] ([.inr (3, dOf.set 0 (.ref (1 + 1))), .inl (3, 5, .inr (.inr (.inr (.inr (nArr 3))))), xN σz 0, xa_queue σz 0, xa_entries σz 0, xN σz 1, xa_queue σz 1, xa_entries σz 1, xN σz 2, xa_queue σz 2, xa_entries σz 2])
  refine pv_iload_n d_O_init_14 rfl rfl ?_
  refine pv_iconst d_O_init_15 (nI 5) (by decide) ?_
  refine pv_icmpN_ge 39 (by decide) d_O_init_16 (by decide) (by decide) (fun h => by omega) (fun _ => ?_)
  refine pv_aload_n d_O_init_19 rfl rfl ?_
  refine pv_get d_O_init_20 (k := 0) rfl ff_O_11 rfl ?_
  refine pv_iload_n d_O_init_23 rfl rfl ?_
  refine pv_new (ci := 1) (fun _ h => h) rfl rfl lay_N ty_N ty_N_ok wl_O_9 wt_N wn_N (fs := dNf) (by decide +kernel) (fun _ => rfl) (by decide) (by decide) d_O_init_24 ?_
  refine pv_dup d_O_init_27 rfl ?_
  refine pv_iload_n d_O_init_28 rfl rfl ?_
  refine pv_callI1V d_O_init_29 (k_N_init (k := 11) (n := 3) rfl ?_) sb_N_init wm_O_15 (fun _ h => h) rfl wi_N_init rfl (by decide) (by decide) (Nat.le_of_ble_eq_true rfl) (by decide) (by decide)
  refine pv_aast3 d_O_init_32 (k := 1) (q := 11) (j := 3) (f := nArr 3) (N := 12) (T := T_N) rfl rfl rfl (by decide) (by decide) ?_
  refine pv_inc1 d_O_init_33 rfl (by decide) ?_
  refine pv_goto 14 (by decide) d_O_init_36 ?_
  show pv_V l D ty base b c_O_init 2 y_O_init.cls none y_O_init.name (pv_rm 4 39 868) (fun U => U.heap.size = base + ([.inr (3, dOf)] : List va_E).length) (pv_Qf base 39 868 (pv_QV D ty base b post)) 13 277 14 [some (.ref (0 + 1)), some (.int (nI 4))] [] ([.inr (3, dOf.set 0 (.ref (1 + 1))), .inl (3, 5, .inr (.inr (.inr (.inr (nArr 4))))), xN σz 0, xa_queue σz 0, xa_entries σz 0, xN σz 1, xa_queue σz 1, xa_entries σz 1, xN σz 2, xa_queue σz 2, xa_entries σz 2, xN σz 3, xa_queue σz 3, xa_entries σz 3])
  refine pv_iload_n d_O_init_14 rfl rfl ?_
  refine pv_iconst d_O_init_15 (nI 5) (by decide) ?_
  refine pv_icmpN_ge 39 (by decide) d_O_init_16 (by decide) (by decide) (fun h => by omega) (fun _ => ?_)
  refine pv_aload_n d_O_init_19 rfl rfl ?_
  refine pv_get d_O_init_20 (k := 0) rfl ff_O_11 rfl ?_
  refine pv_iload_n d_O_init_23 rfl rfl ?_
  refine pv_new (ci := 1) (fun _ h => h) rfl rfl lay_N ty_N ty_N_ok wl_O_9 wt_N wn_N (fs := dNf) (by decide +kernel) (fun _ => rfl) (by decide) (by decide) d_O_init_24 ?_
  refine pv_dup d_O_init_27 rfl ?_
  refine pv_iload_n d_O_init_28 rfl rfl ?_
  refine pv_callI1V d_O_init_29 (k_N_init (k := 14) (n := 4) rfl ?_) sb_N_init wm_O_15 (fun _ h => h) rfl wi_N_init rfl (by decide) (by decide) (Nat.le_of_ble_eq_true rfl) (by decide) (by decide)
  refine pv_aast3 d_O_init_32 (k := 1) (q := 14) (j := 4) (f := nArr 4) (N := 12) (T := T_N) rfl rfl rfl (by decide) (by decide) ?_
  refine pv_inc1 d_O_init_33 rfl (by decide) ?_
  refine pv_goto 14 (by decide) d_O_init_36 ?_
  show pv_V l D ty base b c_O_init 2 y_O_init.cls none y_O_init.name (pv_rm 4 39 868) (fun U => U.heap.size = base + ([.inr (3, dOf)] : List va_E).length) (pv_Qf base 39 868 (pv_QV D ty base b post)) 16 345 14 [some (.ref (0 + 1)), some (.int (nI 5))] [] ([.inr (3, dOf.set 0 (.ref (1 + 1))), .inl (3, 5, .inr (.inr (.inr (.inr (nArr 5))))), xN σz 0, xa_queue σz 0, xa_entries σz 0, xN σz 1, xa_queue σz 1, xa_entries σz 1, xN σz 2, xa_queue σz 2, xa_entries σz 2, xN σz 3, xa_queue σz 3, xa_entries σz 3, xN σz 4, xa_queue σz 4, xa_entries σz 4])
  refine pv_iload_n d_O_init_14 rfl rfl ?_
  refine pv_iconst d_O_init_15 (nI 5) (by decide) ?_
  refine pv_icmpN_ge 39 (by decide) d_O_init_16 (by decide) (by decide) (fun _ => ?_) (fun h => by omega)
  refine pv_aload_n d_O_init_39 rfl rfl ?_
  refine pv_bipush d_O_init_40 (nI 6) (by decide) ?_
  refine pv_newq4 (fun _ h => h) rfl wl_O_18 (by decide) (by decide) (by decide) (by decide) d_O_init_42 ?_
  refine pv_putF d_O_init_45 (k := 0) rfl ff_O_20 fp_O_rings rfl fo_O_rings (fun _ => rfl) (fun _ => rfl) (Nat.le_of_ble_eq_true rfl) ?_
  refine pv_iconst d_O_init_48 (nI 0) (by decide) ?_
  refine pv_ist1 d_O_init_49 rfl (by decide) ?_
  show pv_V l D ty base b c_O_init 2 y_O_init.cls none y_O_init.name (pv_rm 4 39 868) (fun U => U.heap.size = base + ([.inr (3, dOf)] : List va_E).length) (pv_Qf base 39 868 (pv_QV D ty base b post)) 17 351 50 [some (.ref (0 + 1)), some (.int (nI 0))] [] ([.inr (3, (dOf.set 0 (.ref (1 + 1))).set 1 (.ref (17 + 1))), .inl (3, 5, .inr (.inr (.inr (.inr (nArr 5))))), xN σz 0, xa_queue σz 0, xa_entries σz 0, xN σz 1, xa_queue σz 1, xa_entries σz 1, xN σz 2, xa_queue σz 2, xa_entries σz 2, xN σz 3, xa_queue σz 3, xa_entries σz 3, xN σz 4, xa_queue σz 4, xa_entries σz 4, .inl (4, 6, .inr (.inr (.inr (.inr (rArr 0)))))])
  refine pv_iload_n d_O_init_50 rfl rfl ?_
  refine pv_iconst d_O_init_51 (nI 5) (by decide) ?_
  refine pv_icmpN_gt 74 (by decide) d_O_init_52 (by decide) (by decide) (fun h => by omega) (fun _ => ?_)
  refine pv_aload_n d_O_init_55 rfl rfl ?_
  refine pv_get d_O_init_56 (k := 0) rfl ff_O_20 rfl ?_
  refine pv_iload_n d_O_init_59 rfl rfl ?_
  refine pv_new (ci := 2) (fun _ h => h) rfl rfl lay_R ty_R ty_R_ok wl_O_18 wt_R wn_R (fs := dRf) (by decide +kernel) (fun _ => rfl) (by decide) (by decide) d_O_init_60 ?_
  refine pv_dup d_O_init_63 rfl ?_
  refine pv_callI0V d_O_init_64 (k_R_init (k := 18) rfl ?_) sb_R_init wm_O_24 (fun _ h => h) rfl wi_R_init rfl (by decide) (by decide) (Nat.le_of_ble_eq_true rfl) (by decide) (by decide)
  refine pv_aast4 d_O_init_67 (k := 17) (q := 18) (j := 0) (f := rArr 0) (N := 7) (T := T_R) rfl rfl rfl (by decide) (by decide) ?_
  refine pv_inc1 d_O_init_68 rfl (by decide) ?_
  refine pv_goto 50 (by decide) d_O_init_71 ?_
  show pv_V l D ty base b c_O_init 2 y_O_init.cls none y_O_init.name (pv_rm 4 39 868) (fun U => U.heap.size = base + ([.inr (3, dOf)] : List va_E).length) (pv_Qf base 39 868 (pv_QV D ty base b post)) 20 412 50 [some (.ref (0 + 1)), some (.int (nI 1))] [] ([.inr (3, (dOf.set 0 (.ref (1 + 1))).set 1 (.ref (17 + 1))), .inl (3, 5, .inr (.inr (.inr (.inr (nArr 5))))), xN σz 0, xa_queue σz 0, xa_entries σz 0, xN σz 1, xa_queue σz 1, xa_entries σz 1, xN σz 2, xa_queue σz 2, xa_entries σz 2, xN σz 3, xa_queue σz 3, xa_entries σz 3, xN σz 4, xa_queue σz 4, xa_entries σz 4, .inl (4, 6, .inr (.inr (.inr (.inr (rArr 1))))), xR σz 0, xa_messageAt σz 0, xa_marks σz 0])
  refine pv_iload_n d_O_init_50 rfl rfl ?_
  refine pv_iconst d_O_init_51 (nI 5) (by decide) ?_
  refine pv_icmpN_gt 74 (by decide) d_O_init_52 (by decide) (by decide) (fun h => by omega) (fun _ => ?_)
  refine pv_aload_n d_O_init_55 rfl rfl ?_
  refine pv_get d_O_init_56 (k := 0) rfl ff_O_20 rfl ?_
  refine pv_iload_n d_O_init_59 rfl rfl ?_
  refine pv_new (ci := 2) (fun _ h => h) rfl rfl lay_R ty_R ty_R_ok wl_O_18 wt_R wn_R (fs := dRf) (by decide +kernel) (fun _ => rfl) (by decide) (by decide) d_O_init_60 ?_
  refine pv_dup d_O_init_63 rfl ?_
  refine pv_callI0V d_O_init_64 (k_R_init (k := 21) rfl ?_) sb_R_init wm_O_24 (fun _ h => h) rfl wi_R_init rfl (by decide) (by decide) (Nat.le_of_ble_eq_true rfl) (by decide) (by decide)
  refine pv_aast4 d_O_init_67 (k := 17) (q := 21) (j := 1) (f := rArr 1) (N := 7) (T := T_R) rfl rfl rfl (by decide) (by decide) ?_
  refine pv_inc1 d_O_init_68 rfl (by decide) ?_
  refine pv_goto 50 (by decide) d_O_init_71 ?_
  show pv_V l D ty base b c_O_init 2 y_O_init.cls none y_O_init.name (pv_rm 4 39 868) (fun U => U.heap.size = base + ([.inr (3, dOf)] : List va_E).length) (pv_Qf base 39 868 (pv_QV D ty base b post)) 23 473 50 [some (.ref (0 + 1)), some (.int (nI 2))] [] ([.inr (3, (dOf.set 0 (.ref (1 + 1))).set 1 (.ref (17 + 1))), .inl (3, 5, .inr (.inr (.inr (.inr (nArr 5))))), xN σz 0, xa_queue σz 0, xa_entries σz 0, xN σz 1, xa_queue σz 1, xa_entries σz 1, xN σz 2, xa_queue σz 2, xa_entries σz 2, xN σz 3, xa_queue σz 3, xa_entries σz 3, xN σz 4, xa_queue σz 4, xa_entries σz 4, .inl (4, 6, .inr (.inr (.inr (.inr (rArr 2))))), xR σz 0, xa_messageAt σz 0, xa_marks σz 0, xR σz 1, xa_messageAt σz 1, xa_marks σz 1])
  refine pv_iload_n d_O_init_50 rfl rfl ?_
  refine pv_iconst d_O_init_51 (nI 5) (by decide) ?_
  refine pv_icmpN_gt 74 (by decide) d_O_init_52 (by decide) (by decide) (fun h => by omega) (fun _ => ?_)
  refine pv_aload_n d_O_init_55 rfl rfl ?_
  refine pv_get d_O_init_56 (k := 0) rfl ff_O_20 rfl ?_
  refine pv_iload_n d_O_init_59 rfl rfl ?_
  refine pv_new (ci := 2) (fun _ h => h) rfl rfl lay_R ty_R ty_R_ok wl_O_18 wt_R wn_R (fs := dRf) (by decide +kernel) (fun _ => rfl) (by decide) (by decide) d_O_init_60 ?_
  refine pv_dup d_O_init_63 rfl ?_
  refine pv_callI0V d_O_init_64 (k_R_init (k := 24) rfl ?_) sb_R_init wm_O_24 (fun _ h => h) rfl wi_R_init rfl (by decide) (by decide) (Nat.le_of_ble_eq_true rfl) (by decide) (by decide)
  refine pv_aast4 d_O_init_67 (k := 17) (q := 24) (j := 2) (f := rArr 2) (N := 7) (T := T_R) rfl rfl rfl (by decide) (by decide) ?_
  refine pv_inc1 d_O_init_68 rfl (by decide) ?_
  refine pv_goto 50 (by decide) d_O_init_71 ?_
  show pv_V l D ty base b c_O_init 2 y_O_init.cls none y_O_init.name (pv_rm 4 39 868) (fun U => U.heap.size = base + ([.inr (3, dOf)] : List va_E).length) (pv_Qf base 39 868 (pv_QV D ty base b post)) 26 534 50 [some (.ref (0 + 1)), some (.int (nI 3))] [] ([.inr (3, (dOf.set 0 (.ref (1 + 1))).set 1 (.ref (17 + 1))), .inl (3, 5, .inr (.inr (.inr (.inr (nArr 5))))), xN σz 0, xa_queue σz 0, xa_entries σz 0, xN σz 1, xa_queue σz 1, xa_entries σz 1, xN σz 2, xa_queue σz 2, xa_entries σz 2, xN σz 3, xa_queue σz 3, xa_entries σz 3, xN σz 4, xa_queue σz 4, xa_entries σz 4, .inl (4, 6, .inr (.inr (.inr (.inr (rArr 3))))), xR σz 0, xa_messageAt σz 0, xa_marks σz 0, xR σz 1, xa_messageAt σz 1, xa_marks σz 1, xR σz 2, xa_messageAt σz 2, xa_marks σz 2])
  refine pv_iload_n d_O_init_50 rfl rfl ?_
  refine pv_iconst d_O_init_51 (nI 5) (by decide) ?_
  refine pv_icmpN_gt 74 (by decide) d_O_init_52 (by decide) (by decide) (fun h => by omega) (fun _ => ?_)
  refine pv_aload_n d_O_init_55 rfl rfl ?_
  refine pv_get d_O_init_56 (k := 0) rfl ff_O_20 rfl ?_
  refine pv_iload_n d_O_init_59 rfl rfl ?_
  refine pv_new (ci := 2) (fun _ h => h) rfl rfl lay_R ty_R ty_R_ok wl_O_18 wt_R wn_R (fs := dRf) (by decide +kernel) (fun _ => rfl) (by decide) (by decide) d_O_init_60 ?_
  refine pv_dup d_O_init_63 rfl ?_
  refine pv_callI0V d_O_init_64 (k_R_init (k := 27) rfl ?_) sb_R_init wm_O_24 (fun _ h => h) rfl wi_R_init rfl (by decide) (by decide) (Nat.le_of_ble_eq_true rfl) (by decide) (by decide)
  refine pv_aast4 d_O_init_67 (k := 17) (q := 27) (j := 3) (f := rArr 3) (N := 7) (T := T_R) rfl rfl rfl (by decide) (by decide) ?_
  refine pv_inc1 d_O_init_68 rfl (by decide) ?_
  refine pv_goto 50 (by decide) d_O_init_71 ?_
  show pv_V l D ty base b c_O_init 2 y_O_init.cls none y_O_init.name (pv_rm 4 39 868) (fun U => U.heap.size = base + ([.inr (3, dOf)] : List va_E).length) (pv_Qf base 39 868 (pv_QV D ty base b post)) 29 595 50 [some (.ref (0 + 1)), some (.int (nI 4))] [] ([.inr (3, (dOf.set 0 (.ref (1 + 1))).set 1 (.ref (17 + 1))), .inl (3, 5, .inr (.inr (.inr (.inr (nArr 5))))), xN σz 0, xa_queue σz 0, xa_entries σz 0, xN σz 1, xa_queue σz 1, xa_entries σz 1, xN σz 2, xa_queue σz 2, xa_entries σz 2, xN σz 3, xa_queue σz 3, xa_entries σz 3, xN σz 4, xa_queue σz 4, xa_entries σz 4, .inl (4, 6, .inr (.inr (.inr (.inr (rArr 4))))), xR σz 0, xa_messageAt σz 0, xa_marks σz 0, xR σz 1, xa_messageAt σz 1, xa_marks σz 1, xR σz 2, xa_messageAt σz 2, xa_marks σz 2, xR σz 3, xa_messageAt σz 3, xa_marks σz 3])
  refine pv_iload_n d_O_init_50 rfl rfl ?_
  refine pv_iconst d_O_init_51 (nI 5) (by decide) ?_
  refine pv_icmpN_gt 74 (by decide) d_O_init_52 (by decide) (by decide) (fun h => by omega) (fun _ => ?_)
  refine pv_aload_n d_O_init_55 rfl rfl ?_
  refine pv_get d_O_init_56 (k := 0) rfl ff_O_20 rfl ?_
  refine pv_iload_n d_O_init_59 rfl rfl ?_
  refine pv_new (ci := 2) (fun _ h => h) rfl rfl lay_R ty_R ty_R_ok wl_O_18 wt_R wn_R (fs := dRf) (by decide +kernel) (fun _ => rfl) (by decide) (by decide) d_O_init_60 ?_
  refine pv_dup d_O_init_63 rfl ?_
  refine pv_callI0V d_O_init_64 (k_R_init (k := 30) rfl ?_) sb_R_init wm_O_24 (fun _ h => h) rfl wi_R_init rfl (by decide) (by decide) (Nat.le_of_ble_eq_true rfl) (by decide) (by decide)
  refine pv_aast4 d_O_init_67 (k := 17) (q := 30) (j := 4) (f := rArr 4) (N := 7) (T := T_R) rfl rfl rfl (by decide) (by decide) ?_
  refine pv_inc1 d_O_init_68 rfl (by decide) ?_
  refine pv_goto 50 (by decide) d_O_init_71 ?_
  show pv_V l D ty base b c_O_init 2 y_O_init.cls none y_O_init.name (pv_rm 4 39 868) (fun U => U.heap.size = base + ([.inr (3, dOf)] : List va_E).length) (pv_Qf base 39 868 (pv_QV D ty base b post)) 32 656 50 [some (.ref (0 + 1)), some (.int (nI 5))] [] ([.inr (3, (dOf.set 0 (.ref (1 + 1))).set 1 (.ref (17 + 1))), .inl (3, 5, .inr (.inr (.inr (.inr (nArr 5))))), xN σz 0, xa_queue σz 0, xa_entries σz 0, xN σz 1, xa_queue σz 1, xa_entries σz 1, xN σz 2, xa_queue σz 2, xa_entries σz 2, xN σz 3, xa_queue σz 3, xa_entries σz 3, xN σz 4, xa_queue σz 4, xa_entries σz 4, .inl (4, 6, .inr (.inr (.inr (.inr (rArr 5))))), xR σz 0, xa_messageAt σz 0, xa_marks σz 0, xR σz 1, xa_messageAt σz 1, xa_marks σz 1, xR σz 2, xa_messageAt σz 2, xa_marks σz 2, xR σz 3, xa_messageAt σz 3, xa_marks σz 3, xR σz 4, xa_messageAt σz 4, xa_marks σz 4])
  refine pv_iload_n d_O_init_50 rfl rfl ?_
  refine pv_iconst d_O_init_51 (nI 5) (by decide) ?_
  refine pv_icmpN_gt 74 (by decide) d_O_init_52 (by decide) (by decide) (fun h => by omega) (fun _ => ?_)
  refine pv_aload_n d_O_init_55 rfl rfl ?_
  refine pv_get d_O_init_56 (k := 0) rfl ff_O_20 rfl ?_
  refine pv_iload_n d_O_init_59 rfl rfl ?_
  refine pv_new (ci := 2) (fun _ h => h) rfl rfl lay_R ty_R ty_R_ok wl_O_18 wt_R wn_R (fs := dRf) (by decide +kernel) (fun _ => rfl) (by decide) (by decide) d_O_init_60 ?_
  refine pv_dup d_O_init_63 rfl ?_
  refine pv_callI0V d_O_init_64 (k_R_init (k := 33) rfl ?_) sb_R_init wm_O_24 (fun _ h => h) rfl wi_R_init rfl (by decide) (by decide) (Nat.le_of_ble_eq_true rfl) (by decide) (by decide)
  refine pv_aast4 d_O_init_67 (k := 17) (q := 33) (j := 5) (f := rArr 5) (N := 7) (T := T_R) rfl rfl rfl (by decide) (by decide) ?_
  refine pv_inc1 d_O_init_68 rfl (by decide) ?_
  refine pv_goto 50 (by decide) d_O_init_71 ?_
  show pv_V l D ty base b c_O_init 2 y_O_init.cls none y_O_init.name (pv_rm 4 39 868) (fun U => U.heap.size = base + ([.inr (3, dOf)] : List va_E).length) (pv_Qf base 39 868 (pv_QV D ty base b post)) 35 717 50 [some (.ref (0 + 1)), some (.int (nI 6))] [] ([.inr (3, (dOf.set 0 (.ref (1 + 1))).set 1 (.ref (17 + 1))), .inl (3, 5, .inr (.inr (.inr (.inr (nArr 5))))), xN σz 0, xa_queue σz 0, xa_entries σz 0, xN σz 1, xa_queue σz 1, xa_entries σz 1, xN σz 2, xa_queue σz 2, xa_entries σz 2, xN σz 3, xa_queue σz 3, xa_entries σz 3, xN σz 4, xa_queue σz 4, xa_entries σz 4, .inl (4, 6, .inr (.inr (.inr (.inr (rArr 6))))), xR σz 0, xa_messageAt σz 0, xa_marks σz 0, xR σz 1, xa_messageAt σz 1, xa_marks σz 1, xR σz 2, xa_messageAt σz 2, xa_marks σz 2, xR σz 3, xa_messageAt σz 3, xa_marks σz 3, xR σz 4, xa_messageAt σz 4, xa_marks σz 4, xR σz 5, xa_messageAt σz 5, xa_marks σz 5])
  refine pv_iload_n d_O_init_50 rfl rfl ?_
  refine pv_iconst d_O_init_51 (nI 5) (by decide) ?_
  refine pv_icmpN_gt 74 (by decide) d_O_init_52 (by decide) (by decide) (fun _ => ?_) (fun h => by omega)
  refine pv_aload_n d_O_init_74 rfl rfl ?_
  refine pv_new (ci := 0) (fun _ h => h) rfl rfl lay_M ty_M ty_M_ok wl_O_25 wt_M wn_M (fs := dMf) (by decide +kernel) (fun _ => rfl) (by decide) (by decide) d_O_init_75 ?_
  refine pv_dup d_O_init_78 rfl ?_
  refine pv_callI0V d_O_init_79 (k_M_init (k := 36) rfl ?_) sb_M_init wm_O_27 (fun _ h => h) rfl wi_M_init rfl (by decide) (by decide) (Nat.le_of_ble_eq_true rfl) (by decide) (by decide)
  refine pv_putF d_O_init_82 (k := 0) rfl ff_O_28 fp_O_messages rfl fo_O_messages (fun _ => rfl) (fun _ => rfl) (Nat.le_of_ble_eq_true rfl) ?_
  refine pv_aload_n d_O_init_85 rfl rfl ?_
  refine pv_iconst d_O_init_86 (nI 0) (by decide) ?_
  refine pv_put d_O_init_87 (k := 0) rfl ff_O_32 fp_O_greatestRing (fun _ => rfl) (fun _ => rfl) (Nat.le_of_ble_eq_true rfl) ?_
  refine Eq.mp (congrArg (fun q => pv_V l D ty base b c_O_init 2 y_O_init.cls none y_O_init.name (pv_rm 4 39 868) (fun U => U.heap.size = base + ([.inr (3, dOf)] : List va_E).length) (pv_Qf base 39 868 (pv_QV D ty base b post)) 39 868 90 [some (.ref (0 + 1)), some (.int (nI 6))] [] (q)) (show memX σz ++ [] = _ from ?_)) ?_
  · show [xO σz 0, xNs, xN σz 0, xa_queue σz 0, xa_entries σz 0, xN σz 1, xa_queue σz 1, xa_entries σz 1, xN σz 2, xa_queue σz 2, xa_entries σz 2, xN σz 3, xa_queue σz 3, xa_entries σz 3, xN σz 4, xa_queue σz 4, xa_entries σz 4, xRs, xR σz 0, xa_messageAt σz 0, xa_marks σz 0, xR σz 1, xa_messageAt σz 1, xa_marks σz 1, xR σz 2, xa_messageAt σz 2, xa_marks σz 2, xR σz 3, xa_messageAt σz 3, xa_marks σz 3, xR σz 4, xa_messageAt σz 4, xa_marks σz 4, xR σz 5, xa_messageAt σz 5, xa_marks σz 5, xM σz 0, xa_origins σz 0, xa_safe σz 0, xa_stamps σz 0] = _
    unfold xNs xRs
    rw [← nArr5, ← rArr6]
    rfl
  · refine pv_aload_n d_O_init_90 rfl rfl ?_
    refine pv_bipush d_O_init_91 (nI 31) (by decide) ?_
    refine pv_callV1V d_O_init_93 (k_O_enterNewRing (σ := σz) (ρ := []) (fun f i => by show 0 < Bx f; unfold Bx; split <;> first | decide | (split <;> first | decide | (split <;> decide))) (by decide) (by decide) ?_) sb_O_enterNewRing wm_O_36 gx_O rfl ⟨wi_O_enterNewRing, we_O_enterNewRing⟩ (by decide) (by decide) (Nat.le_of_ble_eq_true rfl) (by decide) (by decide)
    exact pv_vret d_O_init_96 kk
end INITO
