/-! 64.form: a form keeps the relation -/
section FORM
variable {c : Nat} {σ τ s s' : Nat → Nat → Nat}
theorem AgX.N {mem n : Nat} (hn : n < 5) (h : ∀ k, k < 5 → AgX k s s') : AgX n (x_N mem n s) (x_N mem n s') := by
  have e1 : s' 1 = s 1 := ((h n hn).1 1 (by omega)).symm
  have ec : ∀ r, x_C s' mem r = x_C s mem r := fun r => by
    unfold x_C
    rw [x_nodes_keep e1]
  unfold x_N
  rw [e1, ec, x_lh_keep 5 (by decide) (fun k hk _ => h k hk), x_ll_keep 5 (by decide) (fun k hk _ => h k hk)]
  exact (h n hn).n1 hn
theorem AgY.N {a n : Nat} (hn : n < 5) (hu : s 0 n ≠ 0) (ha : s 1 n = a) (h : ∀ k, k < 5 → AgY k s s') (ok : y_NOK a n s) : AgY n (y_N a n s) (y_N a n s') ∧ y_NOK a n s' := by
  have g := h n hn
  have ec : y_C s' a n = y_C s a n := by
    unfold y_C
    rw [← g.1 2 (by decide), y_tog_keep (g.1 0 (by decide)) (g.1 1 (by decide)) (g.1 2 (by decide))]
  have hb : (y_C s a n).testBit n = true := y_C_bit.mpr ⟨hn, hu, ha, rfl⟩
  unfold y_N y_NOK
  rw [ec, y_sl_keep 5 (by decide) (fun k hk _ => h k hk)]
  exact (AgY.th hn hb (fun k hk _ => h k hk)).s2 ok
theorem AgX.shadow {n : Nat} {Q : Nat → Bool} {P S : Nat → Nat → Nat} (h : AgX n s S) (hq : Q n = true) (hp : P 7 n = 48) : AgX n (sU s 7 n 48) (ovl 7 9 Q P S) := by
  obtain ⟨h0, h2, h4, h6, _, h30⟩ := h
  refine ⟨fun f hf => ?_, ?_, ?_, ?_, ?_, ?_⟩
  · rw [sU_fn (by omega), ovl_fn (by omega)]
    exact h0 f hf
  · rw [sU_fn (by decide), ovl_fn (by decide)]
    exact h2
  · rw [sU_fn (by decide), ovl_fn (by decide)]
    exact h4
  · rw [sU_fn (by decide), ovl_fn (by decide)]
    exact h6
  · rw [sU_same, ovl_app, if_pos ⟨Or.inl rfl, hq⟩, hp]
  · rw [sU_fn (by omega), ovl_fn (by omega)]
    exact h30
theorem AgX.noshadow {n : Nat} {Q : Nat → Bool} {P S : Nat → Nat → Nat} (h : AgX n s S) (hq : Q n = false) : AgX n s (ovl 7 9 Q P S) := by
  obtain ⟨h0, h2, h4, h6, h7, h30⟩ := h
  refine ⟨fun f hf => ?_, ?_, ?_, ?_, ?_, ?_⟩
  · rw [ovl_fn (by omega)]
    exact h0 f hf
  · rw [ovl_fn (by decide)]
    exact h2
  · rw [ovl_fn (by decide)]
    exact h4
  · rw [ovl_fn (by decide)]
    exact h6
  · rw [ovl_app, hq, if_neg (fun z => absurd z.2 (by decide))]
    exact h7
  · rw [ovl_fn (by omega)]
    exact h30
theorem AgY.shadow {n : Nat} {Q : Nat → Bool} {P S : Nat → Nat → Nat} (h : AgY n s S) (hq : Q n = true) (hp : P 4 n = 48) : AgY n (sU s 4 n 48) (ovl 4 6 Q P S) := by
  obtain ⟨h0, h3, _, h9, h7, h8, h10⟩ := h
  refine ⟨fun f hf => ?_, ?_, ?_, ?_, fun m a b => ?_, fun j a => ?_, ?_⟩
  · rw [sU_fn (by omega), ovl_fn (by omega)]
    exact h0 f hf
  · rw [sU_fn (by decide), ovl_fn (by decide)]
    exact h3
  · rw [sU_same, ovl_app, if_pos ⟨Or.inl rfl, hq⟩, hp]
  · rw [sU_fn (by decide), ovl_fn (by decide)]
    exact h9
  · rw [sU_fn (by decide), ovl_fn (by decide)]
    exact h7 m a b
  · rw [sU_fn (by decide), ovl_fn (by decide)]
    exact h8 j a
  · rw [sU_fn (by decide)]
    exact h10
theorem AgY.noshadow {n : Nat} {Q : Nat → Bool} {P S : Nat → Nat → Nat} (h : AgY n s S) (hq : Q n = false) : AgY n s (ovl 4 6 Q P S) := by
  obtain ⟨h0, h3, h4, h9, h7, h8, h10⟩ := h
  refine ⟨fun f hf => ?_, ?_, ?_, ?_, fun m a b => ?_, fun j a => ?_, h10⟩
  · rw [ovl_fn (by omega)]
    exact h0 f hf
  · rw [ovl_fn (by decide)]
    exact h3
  · rw [ovl_app, hq, if_neg (fun z => absurd z.2 (by decide))]
    exact h4
  · rw [ovl_fn (by decide)]
    exact h9
  · rw [ovl_fn (by decide)]
    exact h7 m a b
  · rw [ovl_fn (by decide)]
    exact h8 j a
theorem x_upin_keep {a : Nat} (h1 : s 1 = s' 1) (h5 : s 5 = s' 5) : ∀ k, x_upin s a k = x_upin s' a k
  | 0 => rfl
  | k + 1 => by rw [x_upin_s, x_upin_s, h1, h5, x_upin_keep h1 h5 k]
theorem y_av_keep {a : Nat} (h0 : s 0 = s' 0) (h1 : s 1 = s' 1) : ∀ j b, y_av s a j b = y_av s' a j b
  | 0, _ => rfl
  | j + 1, b => by
    have e : y_inA s a j = y_inA s' a j := by
      unfold y_inA
      rw [h0, h1]
    unfold y_av
    rw [e, y_av_keep h0 h1 j]
/-- the class's group and the reference's -/
theorem Sim.group (h : Sim c σ τ) {a k r : Nat} (hk : k < 5) (hr : σ 1 k = r + 1) : x_C σ (y_all τ a) r = y_C τ a k := by
  refine Nat.eq_of_testBit_eq (fun i => Bool.eq_iff_iff.mpr ?_)
  rw [x_C_bit, y_C_bit, y_all_bit]
  constructor
  · intro z
    obtain ⟨z1, z2, z3⟩ := z
    rw [decide_eq_true z1, Bool.true_and] at z3
    have y := of_decide_eq_true z3
    exact ⟨z1, y.1, y.2, ((h.inring hk z1 hr).mp z2).2⟩
  · intro z
    obtain ⟨z1, z2, z3, z4⟩ := z
    refine ⟨z1, (h.inring hk z1 hr).mpr ⟨z2, z4⟩, ?_⟩
    rw [decide_eq_true z1, Bool.true_and]
    exact decide_eq_true ⟨z2, z3⟩
/-- one node of a form -/
theorem Sim.formone (h : Sim c σ τ) {a k : Nat} (hk : k < 5) (hu : τ 0 k ≠ 0) : Sim c (sU (x_N (y_all τ a) k σ) 7 k 48) (sU (y_N a k τ) 4 k 48) ∧ y_NOK a k τ := by
  have u : σ 1 k ≠ 0 := fun z => hu ((h.2.2.2.1 k hk).1.1.mp z)
  have hr : σ 1 k = (σ 1 k - 1) + 1 := by omega
  have eg := h.group (a := a) hk hr
  have k1 := h.one (C := x_C σ (y_all τ a) (σ 1 k - 1)) hk hr (fun j hj => by
    have := x_C_bit.mp hj
    exact ⟨this.1, this.2.1⟩)
  unfold x_N y_N y_NOK
  rw [← eg]
  exact k1
theorem Sim.form (h : Sim c σ τ) (hc : c < 512) {n v a : Nat} (hn : n < 5) (hu : τ 0 n ≠ 0) (ha : τ 1 n = a) (hv : v < 5) : Sim (c + 1) (x_form (sU σ 9 n v) a) (y_form (sU τ 6 n v) a) ∧ y_formOK (sU τ 6 n v) a := by
  have b10 : τ 10 0 < 49 := h.1.2.1 10 0
  have s_ : ∀ f, f ≠ 9 → sU σ 9 n v f = σ f := fun f hf => sU_fn hf
  have t_ : ∀ f, f ≠ 6 → sU τ 6 n v f = τ f := fun f hf => sU_fn hf
  have eM : y_all (sU τ 6 n v) a = y_all τ a := y_av_keep (t_ 0 (by decide)) (t_ 1 (by decide)) 5 0
  have eX : x_upin (sU σ 9 n v) a 5 = y_all τ a := by
    rw [x_upin_keep (s_ 1 (by decide)) (s_ 5 (by decide))]
    exact h.upin
  have bit : ∀ k, k < 5 → ((y_all τ a).testBit k = true ↔ (τ 0 k ≠ 0 ∧ τ 1 k = a)) := fun k hk => by
    rw [y_all_bit, decide_eq_true hk, Bool.true_and]
    exact decide_eq_true_iff
  have agX : ∀ k, k < 5 → AgX k σ (sU σ 9 n v) := fun k _ => ⟨fun f hf => (s_ f (by omega)).symm, by rw [s_ 2 (by decide)], by rw [s_ 4 (by decide)], by rw [s_ 6 (by decide)], by rw [s_ 7 (by decide)], by rw [s_ (30 + k) (by omega)]⟩
  have agY : ∀ k, k < 5 → AgY k τ (sU τ 6 n v) := fun k _ => ⟨fun f hf => (t_ f (by omega)).symm, by rw [t_ 3 (by decide)], by rw [t_ 4 (by decide)], by rw [t_ 9 (by decide)], fun m _ _ => by rw [t_ 7 (by decide)], fun j _ => by rw [t_ 8 (by decide)], by omega⟩
  have one : ∀ k, k < 5 → τ 0 k ≠ 0 → Sim c (sU (x_N (y_all τ a) k σ) 7 k 48) (sU (y_N a k τ) 4 k 48) ∧ y_NOK a k τ := fun k hk u => h.formone hk u
  obtain ⟨gOK, gA⟩ := y_g_end (τ := sU τ 6 n v) (a := a) (by rw [t_ 10 (by decide)]; omega) (fun k hk z => by
    rw [t_ 0 (by decide), t_ 1 (by decide)] at z
    exact (AgY.N hk z.1 z.2 agY (one k hk z.1).2).2)
  rw [eM] at gOK gA
  have bX4 : bX (sU σ 9 n v) := bX_sU h.1.1 hv
  have bY4 : bY (sU τ 6 n v) := bY_sU h.1.2.1 hv
  have hmem : ∀ k, k < 5 → (y_all τ a).testBit k = true → sU σ 9 n v 1 k ≠ 0 := fun k hk hb => by
    rw [s_ 1 (by decide)]
    exact fun z => ((bit k hk).mp hb).1 ((h.2.2.2.1 k hk).1.1.mp z)
  have fA : ∀ k, k < 5 → AgX k (if (y_all τ a).testBit k = true then x_N (y_all τ a) k (sU σ 9 n v) else sU σ 9 n v) (x_f6 (y_all τ a) (sU σ 9 n v) 6) := fun k hk => x_f6_end bX4 hmem hk
  have hM32 : y_all τ a < 32 := y_av_lt 5 0 (by decide) (by decide)
  have qk : ∀ k, k < 5 → Qk (y_all τ a) 0 k = (y_all τ a).testBit k := fun k hk => by
    unfold Qk
    rw [decide_eq_true ⟨Nat.zero_le k, hk⟩, Bool.true_and]
  have qn : Qk (y_all τ a) 0 n = true := by
    rw [qk n hn]
    exact (bit n hn).mpr ⟨hu, ha⟩
  have e9 : ovl 7 9 (Qk (y_all τ a) 0) (fun f j => if f = 7 then 48 else σ 9 j) (x_f6 (y_all τ a) (sU σ 9 n v) 6) 9 = σ 9 := by
    funext j
    rw [ovl_app]
    by_cases hq : Qk (y_all τ a) 0 j = true
    · rw [if_pos ⟨Or.inr rfl, hq⟩, if_neg (by decide)]
    · rw [if_neg (fun z => hq z.2), x_f6_ne (by decide) (by decide) (by decide) (by decide) (by omega)]
      exact sU_nei (fun z => hq (by rw [z]; exact qn))
  have e6 : ovl 4 6 (Qk (y_all τ a) 0) (fun f j => if f = 4 then 48 else τ 6 j) (y_g a (y_all τ a) (sU τ 6 n v) 5).1 6 = τ 6 := by
    funext j
    rw [ovl_app]
    by_cases hq : Qk (y_all τ a) 0 j = true
    · rw [if_pos ⟨Or.inr rfl, hq⟩, if_neg (by decide)]
    · rw [if_neg (fun z => hq z.2), y_g_fn (by decide)]
      exact sU_nei (fun z => hq (by rw [z]; exact qn))
  have bXf := bX_f6 (mem := y_all τ a) bX4 6 (by decide)
  have bYf := bY_g bY4 gOK 5 (by decide)
  have hS : Sim c (ovl 7 9 (Qk (y_all τ a) 0) (fun f j => if f = 7 then 48 else σ 9 j) (x_f6 (y_all τ a) (sU σ 9 n v) 6)) (ovl 4 6 (Qk (y_all τ a) 0) (fun f j => if f = 4 then 48 else τ 6 j) (y_g a (y_all τ a) (sU τ 6 n v) 5).1) := by
    refine Sim.glue ?_ ?_ (fun k hk => ?_)
    · intro f j
      rw [ovl_app]
      by_cases hq : (f = 7 ∨ f = 9) ∧ Qk (y_all τ a) 0 j = true
      · rw [if_pos hq]
        rcases hq.1 with z | z
        · rw [if_pos z, z]
          exact (by decide : 48 < Bx 7)
        · rw [if_neg (by omega), z]
          exact h.1.1 9 j
      · rw [if_neg hq]
        exact bXf f j
    · intro f j
      rw [ovl_app]
      by_cases hq : (f = 4 ∨ f = 6) ∧ Qk (y_all τ a) 0 j = true
      · rw [if_pos hq]
        rcases hq.1 with z | z
        · rw [if_pos z, z]
          exact (by decide : 48 < By 4)
        · rw [if_neg (by omega), z]
          exact h.1.2.1 6 j
      · rw [if_neg hq]
        exact bYf f j
    · have fk := fA k hk
      have gk := gA k hk
      by_cases hb : (y_all τ a).testBit k = true
      · rw [if_pos hb] at fk gk
        have hb' := (bit k hk).mp hb
        have ok := one k hk hb'.1
        refine ⟨_, _, ok.1, ((AgX.N hk agX).trans fk).shadow (by rw [qk k hk]; exact hb) (if_pos rfl), ?_, ((AgY.N hk hb'.1 hb'.2 agY ok.2).1.trans gk).shadow (by rw [qk k hk]; exact hb) (if_pos rfl), ?_⟩
        · rw [e9, sU_fn (by decide)]
          exact x_n1_fn hk (by decide)
        · rw [e6, sU_fn (by decide)]
          exact y_N_fn (by decide)
      · rw [if_neg hb] at fk gk
        have hq : Qk (y_all τ a) 0 k = false := by
          rw [qk k hk]
          exact eq_false_of_ne_true hb
        exact ⟨σ, τ, h, ((agX k hk).trans fk).noshadow hq, e9.symm, ((agY k hk).trans gk).noshadow hq, e6.symm⟩
  have u4 : sU τ 6 n v 0 n ≠ 0 := by
    rw [t_ 0 (by decide)]
    exact hu
  have a4 : sU τ 6 n v 1 n = a := by
    rw [t_ 1 (by decide)]
    exact ha
  obtain ⟨lv, lw⟩ := low_after (τ := sU τ 6 n v) hn u4 a4
  rw [eM] at lw
  have lw5 : y_low (sU τ 6 n v) a < 5 := by
    have := y_lv_le (τ := sU τ 6 n v) (a := a) 5 0 (by decide) (by decide)
    unfold y_low
    omega
  have hN := hS.ring (u := x_unused (ovl 7 9 (Qk (y_all τ a) 0) (fun f j => if f = 7 then 48 else σ 9 j) (x_f6 (y_all τ a) (sU σ 9 n v) 6))) (mem := y_all τ a) (w := y_low (sU τ 6 n v) a) x_unused_lt hM32 (fun k hk => x_unused_free hk) lw lw5 hc
  have hL := (hN.loop x_unused_lt (mem := y_all τ a) (fun k hk hb => by
    rw [s_ring_fn (f := 1) (by omega)]
    refine ⟨?_, x_unused_free hk⟩
    rw [ovl_fn (by decide), show x_f6 (y_all τ a) (sU σ 9 n v) 6 1 k = sU σ 9 n v 1 k from x_f6_ne (by decide) (by decide) (by decide) (by decide) (by omega) 6]
    exact hmem k hk hb) 5 (by decide)).1.1
  refine ⟨?_, ?_⟩
  · unfold x_form y_form
    rw [eX, eM, ← ovl_enterNew (mem := y_all τ a) (P := fun f j => if f = 7 then 48 else σ 9 j), ← ovl_enY (mem := y_all τ a) (P := fun f j => if f = 4 then 48 else τ 6 j)]
    exact hL
  · unfold y_formOK
    rw [eM]
    refine ⟨gOK, lv, ?_⟩
    rw [y_g_fn (by decide), t_ 16 (by decide)]
    have := h.1.2.2.2
    omega
end FORM
