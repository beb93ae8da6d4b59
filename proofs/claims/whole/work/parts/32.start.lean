/-! 32.start: the law's loop, and the law from its entry, open in Sim -/
section START
variable {l : Launch} {D : va_G} {ty : Nat → ClassId} {base b Ln : Nat} {xs : Nat → Int32} {nm : String} {Sim : Nat → (Nat → Nat → Nat) → (Nat → Nat → Nat) → Prop}
set_option maxRecDepth 100000 in
set_option maxHeartbeats 2000000 in
theorem law_loop (hS : SimOK Sim) (hL : Ln ≤ 1536) : ∀ (j c : Nat) (σ τ : Nat → Nat → Nat), c + j = 512 → Sim c σ τ → pv_V l D ty base b code 4 R_L ret nm room_1 (Exl base b Ln xs) (Qfl b) 61 6344 18 [some (.ref 0), some (.ref (0 + 1)), some (.ref (40 + 1)), some (.int (nI (3 * c)))] [] (memX σ ++ memY τ) := by
  have hEx : ∀ s, Exl base b Ln xs s → va_X b Ln xs s s.heap ∧ b < base := fun s h => h.2
  intro j
  induction j with
  | zero =>
    intro c σ τ hj hs
    refine pv_iload_n d_L_law_18 rfl rfl ?_
    refine pv_aload_n d_L_law_19 rfl rfl ?_
    refine pv_slen d_L_law_20 hEx ?_
    refine pv_iconst d_L_law_21 (nI 3) (by decide) ?_
    first | refine pv_isubN d_L_law_22 (by omega) ?_ | refine pv_isub d_L_law_22 ?_
    first | refine pv_icmpN_gt 623 (by decide) d_L_law_23 (by first | assumption | omega | exact Nat.lt_of_le_of_lt Nat.and_le_right (by decide)) (by first | assumption | omega | exact Nat.lt_of_le_of_lt Nat.and_le_right (by decide)) (fun h23 => ?_) (fun h23 => ?_) | refine pv_icmp_gt 623 (by decide) d_L_law_23 (fun h23 => ?_) (fun h23 => ?_)
    · refine pv_iconst d_L_law_623 (nI 1) (by decide) ?_
      exact pv_lret (by decide) (by decide) d_L_law_624
    · exact absurd ((cmp3 hL (by omega)).mpr (by omega)) h23
  | succ j ih =>
    intro c σ τ hj hs
    have step : ∀ σ1 τ1, Sim (c + 1) σ1 τ1 → pv_V l D ty base b code 4 R_L ret nm room_1 (Exl base b Ln xs) (Qfl b) 61 6344 617 [some (.ref 0), some (.ref (0 + 1)), some (.ref (40 + 1)), some (.int (nI (3 * c)))] [] (memX σ1 ++ memY τ1) := by
      intro σ1 τ1 h1
      refine pv_iinc d_L_law_617 (nI (3 * c + 3)) rfl (nI_add (3 * c) 3) rfl (by simp) (by decide) ?_
      refine pv_goto 18 (by decide) d_L_law_620 ?_
      exact ih (c + 1) σ1 τ1 (by omega) h1
    refine pv_iload_n d_L_law_18 rfl rfl ?_
    refine pv_aload_n d_L_law_19 rfl rfl ?_
    refine pv_slen d_L_law_20 hEx ?_
    refine pv_iconst d_L_law_21 (nI 3) (by decide) ?_
    first | refine pv_isubN d_L_law_22 (by omega) ?_ | refine pv_isub d_L_law_22 ?_
    first | refine pv_icmpN_gt 623 (by decide) d_L_law_23 (by first | assumption | omega | exact Nat.lt_of_le_of_lt Nat.and_le_right (by decide)) (by first | assumption | omega | exact Nat.lt_of_le_of_lt Nat.and_le_right (by decide)) (fun h23 => ?_) (fun h23 => ?_) | refine pv_icmp_gt 623 (by decide) d_L_law_23 (fun h23 => ?_) (fun h23 => ?_)
    · refine pv_iconst d_L_law_623 (nI 1) (by decide) ?_
      exact pv_lret (by decide) (by decide) d_L_law_624
    · have hi : 3 * c + 3 ≤ Ln := by
        have h9 := mt (cmp3 hL (by omega)).mpr h23
        omega
      have hc : c < 512 := by omega
      refine pv_aload_n d_L_law_26 rfl rfl ?_
      refine pv_iload_n d_L_law_27 rfl rfl ?_
      refine pv_sld d_L_law_28 hEx (by first | assumption | omega) (by omega) ?_
      refine pv_bipush d_L_law_29 (nI 31) (by decide) ?_
      first | refine pv_iandN d_L_law_31 ?_ | refine pv_iand d_L_law_31 ?_
      obtain ⟨j0, hj0, e0⟩ := pk_andE (xs (3 * c)) (m := nI 31) 5 (by decide)
      rw [e0]
      rcases (show j0 = 0 ∨ j0 = 1 ∨ j0 = 2 ∨ j0 = 3 ∨ j0 = 4 ∨ j0 = 5 ∨ j0 = 6 ∨ j0 = 7 ∨ j0 = 8 ∨ j0 = 9 ∨ j0 = 10 ∨ j0 = 11 ∨ j0 = 12 ∨ j0 = 13 ∨ j0 = 14 ∨ j0 = 15 ∨ j0 = 16 ∨ j0 = 17 ∨ j0 = 18 ∨ 19 ≤ j0 by omega) with rfl | rfl | rfl | rfl | rfl | rfl | rfl | rfl | rfl | rfl | rfl | rfl | rfl | rfl | rfl | rfl | rfl | rfl | rfl | hj1
      · exact pv_tswIn 124 d_L_law_32 (by decide) (by decide) (off := 92) (by decide) (by decide) (law_send hS hL c σ τ hc hi hs step)
      · exact pv_tswIn 173 d_L_law_32 (by decide) (by decide) (off := 141) (by decide) (by decide) (law_visit hS hL c σ τ hc hi hs step)
      · exact pv_tswIn 196 d_L_law_32 (by decide) (by decide) (off := 164) (by decide) (by decide) (law_tick hS hL c σ τ hc hi hs step)
      · exact pv_tswIn 219 d_L_law_32 (by decide) (by decide) (off := 187) (by decide) (by decide) (law_crash hS hL c σ τ hc hi hs step)
      · exact pv_tswIn 242 d_L_law_32 (by decide) (by decide) (off := 210) (by decide) (by decide) (law_restart hS hL c σ τ hc hi hs step)
      · exact pv_tswIn 265 d_L_law_32 (by decide) (by decide) (off := 233) (by decide) (by decide) (law_place hS hL c σ τ hc hi hs step)
      · exact pv_tswIn 298 d_L_law_32 (by decide) (by decide) (off := 266) (by decide) (by decide) (law_deafen hS hL c σ τ hc hi hs step)
      · exact pv_tswIn 331 d_L_law_32 (by decide) (by decide) (off := 299) (by decide) (by decide) (law_drop hS hL c σ τ hc hi hs step)
      · exact pv_tswIn 354 d_L_law_32 (by decide) (by decide) (off := 322) (by decide) (by decide) (law_ring hS hL c σ τ hc hi hs step)
      · exact pv_tswIn 377 d_L_law_32 (by decide) (by decide) (off := 345) (by decide) (by decide) (law_members hS hL c σ τ hc hi hs step)
      · exact pv_tswIn 400 d_L_law_32 (by decide) (by decide) (off := 368) (by decide) (by decide) (law_token hS hL c σ τ hc hi hs step)
      · exact pv_tswIn 423 d_L_law_32 (by decide) (by decide) (off := 391) (by decide) (by decide) (law_last hS hL c σ τ hc hi hs step)
      · exact pv_tswIn 446 d_L_law_32 (by decide) (by decide) (off := 414) (by decide) (by decide) (law_requests hS hL c σ τ hc hi hs step)
      · exact pv_tswIn 469 d_L_law_32 (by decide) (by decide) (off := 437) (by decide) (by decide) (law_reach hS hL c σ τ hc hi hs step)
      · exact pv_tswIn 492 d_L_law_32 (by decide) (by decide) (off := 460) (by decide) (by decide) (law_line hS hL c σ τ hc hi hs step)
      · exact pv_tswIn 515 d_L_law_32 (by decide) (by decide) (off := 483) (by decide) (by decide) (law_waiting hS hL c σ τ hc hi hs step)
      · exact pv_tswIn 538 d_L_law_32 (by decide) (by decide) (off := 506) (by decide) (by decide) (law_delivered hS hL c σ τ hc hi hs step)
      · exact pv_tswIn 561 d_L_law_32 (by decide) (by decide) (off := 529) (by decide) (by decide) (law_log hS hL c σ τ hc hi hs step)
      · exact pv_tswIn 594 d_L_law_32 (by decide) (by decide) (off := 562) (by decide) (by decide) (law_stamp hS hL c σ τ hc hi hs step)
      · exact pv_tswOut 617 d_L_law_32 (Or.inr (by rw [nI_toInt (by omega)]; omega)) (by decide) (step σ τ (hS c σ τ hc hs).1.2.2.2.2.1)

set_option maxRecDepth 100000 in
set_option maxHeartbeats 2000000 in
theorem law_start (hS : SimOK Sim) (hL : Ln ≤ 1536) (h1 : Sim 0 (x_enterNew σz 31) (y_in 5)) : pv_V l D ty base b code 4 R_L ret nm room_1 (Exl base b Ln xs) (Qfl b) 0 0 0 [some (.ref 0), none, none, none] [] ([]) := by
  have hE : ∀ s, Exl base b Ln xs s → s.heap.size = base + 0 := fun s h => h.1
  refine pv_new (ci := 3) hE rfl rfl lay_O ty_O ty_O_ok wl_L_7 wt_O wn_O (fs := dOf) (by decide +kernel) (fun _ => rfl) (by decide) (by decide) d_L_law_0 ?_
  refine pv_dup d_L_law_3 rfl ?_
  refine pv_callI0V d_L_law_4 (k_O_init ?_) sb_O_init wm_L_9 hE rfl wi_O_init rfl (by decide) (by decide) (Nat.le_of_ble_eq_true rfl) (by decide) (by decide)
  refine pv_ast1 d_L_law_7 rfl (by decide) ?_
  refine pv_new (ci := 4) hE rfl rfl lay_Y ty_Y ty_Y_ok wl_L_10 wt_Y wn_Y (fs := dYf) (by decide +kernel) (fun _ => rfl) (by decide) (by decide) d_L_law_8 ?_
  refine pv_dup d_L_law_11 rfl ?_
  refine pv_callI0V (k := 40) d_L_law_12 (k_Y_init (ξ := memX (x_enterNew σz 31) ++ []) rfl ?_) sb_Y_init wm_L_12 hE rfl wi_Y_init rfl (by decide) (by decide) (Nat.le_of_ble_eq_true rfl) (by decide) (by decide)
  refine pv_ast2 d_L_law_15 rfl (by decide) ?_
  refine pv_iconst d_L_law_16 (nI 0) (by decide) ?_
  refine pv_ist3 d_L_law_17 rfl (by decide) ?_
  exact law_loop hS hL 512 0 (x_enterNew σz 31) (y_in 5) rfl h1
theorem arr_prim {args : Array Value} {s : State} {t : FieldType} (hr : ∀ C, t ≠ .object C) (h : (Cond.arrayClass t).before args s = true) : ∃ cA : ClassId, ArrOfT s cA t ∧ va_RA s cA t := by
  obtain ⟨c, k, comp, h1, h2, h3⟩ := Cond.arrayClass_spec h
  refine ⟨c, fun n z => ⟨fun q hq => (by cases hq), k, h2, comp, h3⟩, ?_⟩
  cases t with
  | object C => exact absurd rfl (hr C)
  | _ => exact h1
theorem arr_obj {s : State} {C : String} (h : va_AO C s) : ∃ cA : ClassId, ArrOfT s cA (.object C) ∧ va_RA s cA (.object C) := by
  obtain ⟨comp, c, k, h1, h2, h3, h4, h5⟩ := Cond.arrayOver_spec h
  exact ⟨c, fun n z => ⟨fun q hq => (by cases hq), k, h3, comp, h4⟩, k, comp, h3, h4, h1, h5⟩
theorem known_all {args : Array Value} {s : State} (hts : ∀ w ∈ pv_T, w.before args s = true) (hN : va_AO pv_RN s) (hR : va_AO pv_RR s) (hn : ∀ q ∈ pv_N, va_Nw (.methodLinkNest q.1 q.2.1 q.2.2.1 q.2.2.2) s) : ∃ (D : va_G) (ty : Nat → ClassId), pv_K D ty s := by
  obtain ⟨c0, i0, k0⟩ := u_known hts lay_M (hts _ wt_M)
  obtain ⟨c1, i1, k1⟩ := u_known hts lay_N (hts _ wt_N)
  obtain ⟨c2, i2, k2⟩ := u_known hts lay_R (hts _ wt_R)
  obtain ⟨c3, i3, k3⟩ := u_known hts lay_O (hts _ wt_O)
  obtain ⟨c4, i4, k4⟩ := u_known hts lay_Y (hts _ wt_Y)
  obtain ⟨t0, a0⟩ := arr_prim (t := .int) (fun C h => by cases h) (hts _ wa_int)
  obtain ⟨t1, a1⟩ := arr_prim (t := .boolean) (fun C h => by cases h) (hts _ wa_boolean)
  obtain ⟨t2, a2⟩ := arr_prim (t := .long) (fun C h => by cases h) (hts _ wa_long)
  obtain ⟨t3, a3⟩ := arr_obj hN
  obtain ⟨t4, a4⟩ := arr_obj hR
  refine ⟨(fun c => match c with | 0 => c0 | 1 => c1 | 2 => c2 | 3 => c3 | _ => c4, fun c => match c with | 0 => i0 | 1 => i1 | 2 => i2 | 3 => i3 | _ => i4), fun k => match k with | 0 => t0 | 1 => t1 | 2 => t2 | 3 => t3 | _ => t4, ⟨fun c q hq => ?_, fun k q hq => ?_⟩, hN, hR, hn⟩
  · match c, hq with
    | 0, hq => cases hq; exact k0
    | 1, hq => cases hq; exact k1
    | 2, hq => cases hq; exact k2
    | 3, hq => cases hq; exact k3
    | 4, hq => cases hq; exact k4
    | n + 5, hq => cases hq
  · match k, hq with
    | 0, hq => cases hq; exact a0
    | 1, hq => cases hq; exact a1
    | 2, hq => cases hq; exact a2
    | 3, hq => cases hq; exact a3
    | 4, hq => cases hq; exact a4
    | n + 5, hq => cases hq
theorem tb_in {w : Cond} (i : Nat) (h : tables_1[i]? = some w) : w ∈ lw_tbl := List.mem_append_right _ (List.mem_of_getElem? h)
set_option maxRecDepth 100000 in
theorem whole_start_open (hS : SimOK Sim) (h1 : Sim 0 (x_enterNew σz 31) (y_in 5)) {p : Program} {e : Env} {s : State} {m : MethodId} {below : List Frame} {meth : Method} {c : Code} (l : Launch) {b L : Nat} {xs : Nat → Int32} (hL : L ≤ 1536) (C0 : lw_At p s m meth c b L xs) : W p l e room_1 s m #[Value.ref b] below meth c s.heap [] 0 0 (lw_Z below #[Value.ref b] s) (entryFrame m ([Value.ref b] : List Value).toArray 4) := by
  obtain ⟨hx, hb, hr, hml, hown, hts, hX, hbl, hlocks, -⟩ := C0
  have hts9 : ∀ w ∈ pv_T, w.before #[Value.ref b] s = true := fun w h => hts w (List.mem_filter.mp h).1
  obtain ⟨D, ty, hK⟩ := known_all hts9 (va_AO.of (hts _ (tb_in 17 rfl))) (va_AO.of (hts _ (tb_in 73 rfl))) (fun q hq => by
    rcases List.mem_cons.mp hq with rfl | hq
    · exact va_Nw.of rfl (hts _ (tb_in 152 rfl))
    · exact absurd hq List.not_mem_nil)
  rw [lg_entry_eq]
  have hl := lv_entry ([Value.ref b]) (n := 4) (Nat.le_of_ble_eq_true rfl)
  have hw := law_start (l := l) (D := D) (ty := ty) (base := s.heap.size) (b := b) (nm := meth.name) hS hL h1 p e s m #[Value.ref b] below meth c ⟨⟨hx, hb, hml, hown, hts9⟩, hK, hr, hlocks, rfl, Nat.le_refl _, ⟨rfl, hX, hbl⟩⟩ s.heap [] _ hl (fun k q hq => by cases hq) va_S.rf
  intro T hT X
  obtain ⟨t, a1, a2⟩ := hw T hT X
  exact ⟨t, a1, a2 rfl⟩
end START
